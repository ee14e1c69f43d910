/-! fibres and cosets -/
def gfP (m : Nat) (a b h : Int) (w : Int → Int) (z : Int) : Int := sumN m (fun q => if (a * q + b * h) % m = 0 then w (z - q) else 0)
def cosW (K D M : Nat) (T h z : Int) : Int := if (D : Int) ∣ h then K * ind M (z - h / D * T) else 0
theorem cop_dvd {a m : Nat} {x : Int} (h : Nat.gcd a m = 1) (hx : (m : Int) ∣ a * x) : (m : Int) ∣ x := by
  obtain ⟨p, w, e⟩ := bezI (a : Int) (m : Int)
  rw [Int.gcd_natCast_natCast, h] at e
  have e : p * a + w * m = 1 := e
  have e2 : x = p * (a * x) + m * (w * x) := by
    have : x = x * (p * a + w * m) := by rw [e, Int.mul_one]
    grind
  rw [e2]
  exact Int.dvd_add (Int.dvd_trans hx (Int.dvd_mul_left ..)) (Int.dvd_mul_right ..)
theorem fib_iff {d m1 a1 : Nat} {b t q j : Int} (hd : 0 < d) (hc : Nat.gcd a1 m1 = 1) (ht : ((d * m1 : Nat) : Int) ∣ ((d * a1 : Nat) : Int) * t + b * d) : ((d * m1 : Nat) : Int) ∣ ((d * a1 : Nat) : Int) * q + b * (d * j) ↔ (m1 : Int) ∣ q - j * t := by
  have e : ((d * a1 : Nat) : Int) * q + b * (d * j) = (d : Int) * (a1 * (q - j * t)) + j * (((d * a1 : Nat) : Int) * t + b * d) := by
    rw [Int.natCast_mul]; grind
  rw [e]
  constructor
  · intro h
    have h2 := Int.dvd_sub h (Int.dvd_trans ht (Int.dvd_mul_left j _))
    rw [Int.add_sub_cancel, Int.natCast_mul] at h2
    exact cop_dvd hc (Int.dvd_of_mul_dvd_mul_left (by omega) h2)
  · intro h
    refine Int.dvd_add ?_ (Int.dvd_trans ht (Int.dvd_mul_left ..))
    rw [Int.natCast_mul]
    exact Int.mul_dvd_mul_left _ (Int.dvd_trans h (Int.dvd_mul_left ..))
theorem cos_step {m K D M a : Nat} {b T : Int} (hm : 0 < m) (hDM : m = D * M) (hab : Int.gcd a b = 1) :
    ∃ (g d' D' r : Nat) (t : Int), Nat.gcd D (Nat.gcd a m) = g ∧ Nat.gcd a m = d' * g ∧ D = D' * g ∧ Nat.gcd d' D' = 1 ∧ M = d' * r ∧ (m : Int) ∣ a * t + b * (Nat.gcd a m : Nat) ∧ ∀ h z, gfP m a b h (cosW K D M T h) z = cosW (K * g) (D * d') r (D' * t + d' * T) h z := by
  have hD : 0 < D := Nat.pos_of_ne_zero (fun h => by rw [h, Nat.zero_mul] at hDM; omega)
  obtain ⟨D', d', hc, hD', hd'⟩ := Nat.exists_coprime D (Nat.gcd a m)
  have hg : 0 < Nat.gcd D (Nat.gcd a m) := Nat.gcd_pos_of_pos_left _ hD
  obtain ⟨a1, m1, hc1, ha1, hm1⟩ := Nat.exists_coprime a m
  have hdp : 0 < Nat.gcd a m := Nat.gcd_pos_of_pos_right _ hm
  generalize Nat.gcd D (Nat.gcd a m) = g at hD' hd' hg
  generalize hdd : Nat.gcd a m = d at hd' ha1 hm1 hdp
  have hd1 : (d : Int) ∣ a := Int.natCast_dvd_natCast.mpr (by rw [ha1]; exact Nat.dvd_mul_left ..)
  have hc2 : Nat.gcd d' D' = 1 := by rw [Nat.gcd_comm]; exact hc
  have hdp' : 0 < d' := Nat.pos_of_ne_zero (fun h => by rw [h, Nat.zero_mul] at hd'; omega)
  have hDp' : 0 < D' := Nat.pos_of_ne_zero (fun h => by rw [h, Nat.zero_mul] at hD'; omega)
  have e1 : D' * M = d' * m1 := by
    have : D' * g * M = m1 * (d' * g) := by rw [← hD', ← hd', ← hDM]; exact hm1
    have h2 : g * (D' * M) = g * (d' * m1) := by grind
    exact Nat.eq_of_mul_eq_mul_left hg h2
  obtain ⟨r, hr⟩ : d' ∣ M := Nat.Coprime.dvd_of_dvd_mul_left (k := d') (m := D') hc2 (by rw [e1]; exact Nat.dvd_mul_right ..)
  have e2 : m1 = D' * r := by
    have : d' * m1 = d' * (D' * r) := by rw [← e1, hr]; grind
    exact Nat.eq_of_mul_eq_mul_left hdp' this
  have hM : 0 < M := Nat.pos_of_ne_zero (fun h => by rw [h, Nat.mul_zero] at hDM; omega)
  have hrp : 0 < r := Nat.pos_of_ne_zero (fun h => by rw [h, Nat.mul_zero] at hr; omega)
  obtain ⟨p, w, e⟩ := bezI (a : Int) (m : Int)
  rw [Int.gcd_natCast_natCast, hdd] at e
  have ht : (m : Int) ∣ a * (-(b * p)) + b * (d : Nat) := ⟨b * w, by rw [← e]; grind⟩
  refine ⟨g, d', D', r, -(b * p), rfl, hd', hD', hc2, hr, ht, fun h z => ?_⟩
  have hmm : m = D' * d' * r * g := by rw [hDM, hD', hr]; grind
  have em : m = d * m1 := by rw [Nat.mul_comm]; exact hm1
  have ea : a = d * a1 := by rw [Nat.mul_comm]; exact ha1
  have ht2 : ((d * m1 : Nat) : Int) ∣ ((d * a1 : Nat) : Int) * (-(b * p)) + b * d := by rw [← em, ← ea]; exact ht
  unfold gfP
  by_cases hh : ((D * d' : Nat) : Int) ∣ h
  · obtain ⟨k, hk⟩ := hh
    have hk2 : h = (d : Int) * (D' * k) := by rw [hk, hD', hd']; simp only [Int.natCast_mul]; grind
    have hk3 : h = (D : Int) * (d' * k) := by rw [hk]; simp only [Int.natCast_mul]; grind
    have c1 : h / (D : Int) = d' * k := by rw [hk3]; exact Int.mul_ediv_cancel_left _ (by omega)
    have c2 : h / ((D * d' : Nat) : Int) = k := by rw [hk]; exact Int.mul_ediv_cancel_left _ (by have := Nat.mul_pos hD hdp'; omega)
    have hR : cosW (K * g) (D * d') r (D' * -(b * p) + d' * T) h z = (K * g : Nat) * ind r (z - k * (D' * -(b * p) + d' * T)) := by
      unfold cosW
      rw [if_pos ⟨k, hk⟩, c2]
    rw [hR]
    have hL : sumN m (fun q => if ((a : Int) * q + b * h) % m = 0 then cosW K D M T h (z - q) else 0) = sumN (D' * d' * r * g) (fun q => K * (ind (D' * r) (q - D' * k * -(b * p)) * ind (d' * r) (q - (z - d' * k * T)))) := by
      rw [← hmm]
      refine sumN_congr m (fun q _ => ?_)
      have f1 := fib_iff (q := q) (j := D' * k) hdp hc1 ht2
      rw [← em, ← ea, ← hk2, e2] at f1
      have hcq : cosW K D M T h (z - q) = K * ind (d' * r) (q - (z - d' * k * T)) := by
        unfold cosW
        rw [if_pos ⟨d' * k, hk3⟩, c1, hr]
        congr 1
        refine ind_iff ?_
        rw [show (q : Int) - (z - d' * k * T) = -(z - q - d' * k * T) by omega, Int.dvd_neg]
      by_cases q1 : ((a : Int) * q + b * h) % m = 0
      · rw [if_pos q1, hcq, ind_1 (f1.mp (Int.dvd_of_emod_eq_zero q1)), Int.one_mul]
      · rw [if_neg q1, ind_0 (fun q2 => q1 (Int.emod_eq_zero_of_dvd (f1.mpr q2))), Int.zero_mul, Int.mul_zero]
    rw [hL, sumN_mul, ind_two hrp hDp' hdp' hc]
    rw [Int.natCast_mul, Int.mul_assoc (K : Int) (g : Int)]
    congr 1
    have e3 : ((r : Int) ∣ D' * k * -(b * p) - (z - d' * k * T)) ↔ ((r : Int) ∣ z - k * (D' * -(b * p) + d' * T)) := by
      rw [show (D' : Int) * k * -(b * p) - (z - d' * k * T) = -(z - k * (D' * -(b * p) + d' * T)) by grind, Int.dvd_neg]
    by_cases q : (r : Int) ∣ z - k * (D' * -(b * p) + d' * T)
    · rw [if_pos (e3.mpr q), ind_1 q, Int.mul_one]
    · rw [if_neg (fun h => q (e3.mp h)), ind_0 q, Int.mul_zero]
  · rw [show cosW (K * g) (D * d') r (D' * -(b * p) + d' * T) h z = 0 from if_neg hh]
    rw [show sumN m (fun q => if ((a : Int) * q + b * h) % m = 0 then cosW K D M T h (z - q) else 0) = sumN m (fun _ => 0) from sumN_congr m (fun q _ => ?_), sumN_zero]
    by_cases q1 : ((a : Int) * q + b * h) % m = 0
    · rw [if_pos q1]
      by_cases q2 : (D : Int) ∣ h
      · exfalso
        apply hh
        have h1 : (d : Int) ∣ a * q + b * h := Int.dvd_trans (Int.natCast_dvd_natCast.mpr (by rw [em]; exact Nat.dvd_mul_right ..)) (Int.dvd_of_emod_eq_zero q1)
        have h2 := Int.dvd_sub h1 (Int.dvd_trans hd1 (Int.dvd_mul_right _ q))
        rw [show (a : Int) * q + b * h - a * q = b * h by omega] at h2
        obtain ⟨p', w', e'⟩ := bezI (a : Int) b
        rw [hab] at e'
        have e' : p' * a + w' * b = 1 := e'
        have h3 : (d : Int) ∣ h := by
          have : h = a * (p' * h) + w' * (b * h) := by
            have : h = h * (p' * a + w' * b) := by rw [e', Int.mul_one]
            grind
          rw [this]
          exact Int.dvd_add (Int.dvd_trans hd1 (Int.dvd_mul_right ..)) (Int.dvd_trans h2 (Int.dvd_mul_left ..))
        obtain ⟨i, hi⟩ := q2
        have h4 : (d' : Int) ∣ D' * i := by
          rw [hi, hD', hd'] at h3
          refine Int.dvd_of_mul_dvd_mul_left (a := (g : Int)) (by omega) ?_
          rw [show (g : Int) * d' = ((d' * g : Nat) : Int) by rw [Int.natCast_mul, Int.mul_comm], show (g : Int) * (D' * i) = ((D' * g : Nat) : Int) * i by rw [Int.natCast_mul]; grind]
          exact h3
        obtain ⟨k, hk⟩ := cop_dvd hc h4
        exact ⟨k, by rw [hi, hk, Int.natCast_mul, Int.mul_assoc]⟩
      · exact if_neg q2
    · rw [if_neg q1]
