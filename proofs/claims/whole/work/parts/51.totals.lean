/-! the sums over h -/
theorem sum_gcd {M : Nat} (hM : 0 < M) (y : Int) : sumN M (fun j => ind M (j * y)) = (Int.gcd y M : Int) := by
  obtain ⟨y1, M1, hc, hy, hM1⟩ := Nat.exists_coprime y.natAbs M
  have eg : Int.gcd y M = Nat.gcd y.natAbs M := by simp [Int.gcd]
  rw [eg]
  generalize Nat.gcd y.natAbs M = g at hy hM1
  have hg : 0 < g := Nat.pos_of_ne_zero (fun h => by rw [h, Nat.mul_zero] at hM1; omega)
  have hM1p : 0 < M1 := Nat.pos_of_ne_zero (fun h => by rw [h, Nat.zero_mul] at hM1; omega)
  have key : ∀ j : Int, ((M : Nat) : Int) ∣ j * y ↔ (M1 : Int) ∣ j - 0 := by
    intro j
    have e1 : ((M : Nat) : Int) ∣ j * y ↔ ((M : Nat) : Int) ∣ j * (y.natAbs : Int) := by
      rcases Int.natAbs_eq y with h | h
      · rw [← h]
      · conv => lhs; rw [h]
        rw [Int.mul_neg, Int.dvd_neg]
    rw [e1, hM1, hy, Int.sub_zero, Int.natCast_mul, Int.natCast_mul]
    constructor
    · intro h
      have h2 : (M1 : Int) ∣ y1 * j := by
        refine Int.dvd_of_mul_dvd_mul_left (a := (g : Int)) (by omega) ?_
        rw [Int.mul_comm (g : Int) M1, show (g : Int) * (y1 * j) = j * (y1 * g) by grind]
        exact h
      exact cop_dvd hc h2
    · rintro ⟨k, rfl⟩
      exact ⟨k * y1, by grind⟩
  rw [sumN_congr (f := fun j => ind M (j * y)) (g := fun j => ind M1 (j - 0)) M (fun j _ => ind_iff (key j))]
  have := ind_sum (A := M1) (k := g) hM1p 0
  rw [← hM1] at this
  exact this
theorem sum_lin {M a : Nat} (hM : 0 < M) (c : Int) : sumN M (fun v => ind M (a * v - c)) = if ((Nat.gcd a M : Nat) : Int) ∣ c then (Nat.gcd a M : Int) else 0 := by
  obtain ⟨a1, M1, hc, ha, hM1⟩ := Nat.exists_coprime a M
  generalize Nat.gcd a M = g at ha hM1
  have hg : 0 < g := Nat.pos_of_ne_zero (fun h => by rw [h, Nat.mul_zero] at hM1; omega)
  have hM1p : 0 < M1 := Nat.pos_of_ne_zero (fun h => by rw [h, Nat.zero_mul] at hM1; omega)
  by_cases h : (g : Int) ∣ c
  · rw [if_pos h]
    obtain ⟨c1, rfl⟩ := h
    obtain ⟨p, w, e⟩ := bezI (a1 : Int) (M1 : Int)
    rw [Int.gcd_natCast_natCast, hc] at e
    have e : p * a1 + w * M1 = 1 := e
    have key : ∀ v : Int, ((M : Nat) : Int) ∣ a * v - g * c1 ↔ (M1 : Int) ∣ v - p * c1 := by
      intro v
      rw [hM1, ha, Int.natCast_mul, Int.natCast_mul]
      constructor
      · intro h
        have h2 : (M1 : Int) ∣ a1 * v - c1 := by
          refine Int.dvd_of_mul_dvd_mul_left (a := (g : Int)) (by omega) ?_
          rw [Int.mul_comm (g : Int) M1, show (g : Int) * (a1 * v - c1) = a1 * g * v - g * c1 by grind]
          exact h
        have h3 : (M1 : Int) ∣ a1 * (v - p * c1) := by
          have : (a1 : Int) * (v - p * c1) = (a1 * v - c1) + M1 * (w * c1) := by
            have : c1 = c1 * (p * a1 + w * M1) := by rw [e, Int.mul_one]
            grind
          rw [this]
          exact Int.dvd_add h2 (Int.dvd_mul_right ..)
        exact cop_dvd hc h3
      · rintro ⟨k, hk⟩
        refine ⟨a1 * k - w * c1, ?_⟩
        have hv : v = M1 * k + p * c1 := by omega
        have : c1 = c1 * (p * a1 + w * M1) := by rw [e, Int.mul_one]
        rw [hv]; grind
    rw [sumN_congr (f := fun v => ind M (a * v - g * c1)) (g := fun v => ind M1 (v - p * c1)) M (fun v _ => ind_iff (key v))]
    have := ind_sum (A := M1) (k := g) hM1p (p * c1)
    rw [← hM1] at this
    exact this
  · rw [if_neg h, sumN_congr (f := fun v => ind M (a * v - c)) (g := fun _ => 0) M (fun v _ => ind_0 (fun q => h ?_)), sumN_zero]
    have q2 : (g : Int) ∣ a * v - c := Int.dvd_trans (Int.natCast_dvd_natCast.mpr (by rw [hM1]; exact Nat.dvd_mul_left ..)) q
    have q3 : (g : Int) ∣ a * v := Int.dvd_trans (Int.natCast_dvd_natCast.mpr (by rw [ha]; exact Nat.dvd_mul_left ..)) (Int.dvd_mul_right _ (v : Int))
    have := Int.dvd_sub q3 q2
    rw [show (a : Int) * v - (a * v - c) = c by omega] at this
    exact this
theorem cos_0 {K D M m : Nat} {T sh : Int} (hm : 0 < m) (hDM : m = D * M) : sumN m (fun h => cosW K D M T h (sh * h)) = K * (Int.gcd (sh * D - T) M : Int) := by
  have hD : 0 < D := Nat.pos_of_ne_zero (fun h => by rw [h, Nat.zero_mul] at hDM; omega)
  have hM : 0 < M := Nat.pos_of_ne_zero (fun h => by rw [h, Nat.mul_zero] at hDM; omega)
  rw [hDM, sumN_congr (g := fun h => ind D h * (K * ind M (sh * h - h / D * T))) (D * M) (fun h _ => by
    unfold cosW
    by_cases q : (D : Int) ∣ h
    · rw [if_pos q, ind_1 q, Int.one_mul]
    · rw [if_neg q, ind_0 q, Int.zero_mul]), sum_step hD (fun h => K * ind M (sh * h - h / D * T)) M]
  rw [sumN_congr (g := fun j => K * ind M (j * (sh * D - T))) M (fun j _ => by
    rw [Int.mul_ediv_cancel_left _ (by omega), show sh * (D * (j : Int)) - j * T = j * (sh * D - T) by grind]), sumN_mul K (fun j => ind M (j * (sh * D - T))), sum_gcd hM]
def c4 (M : Nat) (y : Int) : Int := if M % 2 = 1 then 1 else if (2 : Int) ∣ ((M / 2 : Nat) : Int) * y then 4 else 2
theorem cos_1 {K D M m : Nat} {T sh : Int} (hm : 0 < m) (hDM : m = D * M) : sumN m (fun h => if (2 * h) % m = 0 then sumN m (fun v => cosW K D M T h (sh * h - 2 * v)) else 0) = K * D * c4 M (sh * D - T) := by
  have hD : 0 < D := Nat.pos_of_ne_zero (fun h => by rw [h, Nat.zero_mul] at hDM; omega)
  have hM : 0 < M := Nat.pos_of_ne_zero (fun h => by rw [h, Nat.mul_zero] at hDM; omega)
  generalize hy : sh * D - T = y
  have hin : ∀ j : Int, sumN m (fun v => cosW K D M T (D * j) (sh * (D * j) - 2 * v)) = K * D * (if ((Nat.gcd 2 M : Nat) : Int) ∣ j * y then (Nat.gcd 2 M : Int) else 0) := by
    intro j
    have e1 : ∀ v : Int, cosW K D M T (D * j) (sh * (D * j) - 2 * v) = K * ind M ((2 : Nat) * v - j * y) := fun v => by
      unfold cosW
      rw [if_pos (Int.dvd_mul_right ..), Int.mul_ediv_cancel_left _ (by omega)]
      congr 1
      refine ind_iff ?_
      rw [show ((2 : Nat) : Int) * v - j * y = -(sh * (D * j) - 2 * v - j * T) by rw [← hy]; grind, Int.dvd_neg]
    have hp : per M (fun v => ind M ((2 : Nat) * v - j * y)) := fun x => ind_iff (by
      rw [show ((2 : Nat) : Int) * (x + M) - j * y = (2 : Nat) * x - j * y + M * 2 by grind]
      constructor
      · intro h
        have := Int.dvd_sub h (Int.dvd_mul_right (M : Int) 2)
        rw [Int.add_sub_cancel] at this; exact this
      · intro h; exact Int.dvd_add h (Int.dvd_mul_right ..))
    rw [sumN_congr (g := fun v => K * ind M ((2 : Nat) * v - j * y)) m (fun v _ => e1 v), sumN_mul K (fun v => ind M ((2 : Nat) * v - j * y)), hDM, Nat.mul_comm D M, hp.mulN D, sum_lin hM, Int.mul_assoc]
  have h1 : sumN m (fun h => if (2 * h) % m = 0 then sumN m (fun v => cosW K D M T h (sh * h - 2 * v)) else 0) = sumN M (fun j => (K * D : Int) * (if (M : Int) ∣ 2 * j then (if ((Nat.gcd 2 M : Nat) : Int) ∣ j * y then (Nat.gcd 2 M : Int) else 0) else 0)) := by
    have e : ∀ h : Int, (if (2 * h) % m = 0 then sumN m (fun v => cosW K D M T h (sh * h - 2 * v)) else 0) = ind D h * (if (2 * h) % m = 0 then sumN m (fun v => cosW K D M T h (sh * h - 2 * v)) else 0) := fun h => by
      by_cases q : (D : Int) ∣ h
      · rw [ind_1 q, Int.one_mul]
      · rw [ind_0 q, Int.zero_mul]
        split
        · rw [sumN_congr (g := fun _ => 0) m (fun v _ => if_neg q), sumN_zero]
        · rfl
    rw [sumN_congr (g := fun h => ind D h * (if (2 * h) % m = 0 then sumN m (fun v => cosW K D M T h (sh * h - 2 * v)) else 0)) m (fun h _ => e h)]
    conv => lhs; rw [show m = D * M from hDM]
    rw [sum_step hD (fun h => if (2 * h) % ((D * M : Nat) : Int) = 0 then sumN (D * M) (fun v => cosW K D M T h (sh * h - 2 * v)) else 0) M]
    refine sumN_congr M (fun j _ => ?_)
    have hi := hin j
    rw [hDM] at hi
    have hiff : (2 * ((D : Int) * j)) % ((D * M : Nat) : Int) = 0 ↔ (M : Int) ∣ 2 * j := by
      rw [← Int.dvd_iff_emod_eq_zero, Int.natCast_mul, show 2 * ((D : Int) * j) = D * (2 * j) by grind]
      exact ⟨fun h => Int.dvd_of_mul_dvd_mul_left (by omega) h, fun h => Int.mul_dvd_mul_left _ h⟩
    by_cases q : (M : Int) ∣ 2 * j
    · rw [if_pos (hiff.mpr q), if_pos q]; exact hi
    · rw [if_neg (fun h => q (hiff.mp h)), if_neg q, Int.mul_zero]
  rw [h1, sumN_mul]
  congr 1
  unfold c4
  by_cases ho : M % 2 = 1
  · rw [if_pos ho]
    have g1 : Nat.gcd 2 M = 1 := by rw [Nat.gcd_rec, ho]; rfl
    rw [g1]
    rw [sumN_congr (g := fun j => ind M j * 1) M (fun j _ => by
      have h1 : (M : Int) ∣ 2 * j ↔ (M : Int) ∣ j := ⟨fun h => cop_dvd (a := 2) (by rw [g1]) h, fun h => Int.dvd_trans h (Int.dvd_mul_left ..)⟩
      by_cases q : (M : Int) ∣ j
      · rw [if_pos (h1.mpr q), ind_1 q, if_pos (by simp)]; rfl
      · rw [if_neg (fun h => q (h1.mp h)), ind_0 q]; rfl)]
    have := sum_step hM (fun _ => 1) 1
    rw [Nat.mul_one] at this
    rw [this]; rfl
  · rw [if_neg ho]
    obtain ⟨M2, rfl⟩ : ∃ M2, M = M2 * 2 := ⟨M / 2, by omega⟩
    have g2 : Nat.gcd 2 (M2 * 2) = 2 := Nat.gcd_eq_left (Nat.dvd_mul_left ..)
    have hM2 : 0 < M2 := by omega
    rw [g2, Nat.mul_div_cancel _ (by decide : 0 < 2)]
    rw [sumN_congr (g := fun j => ind M2 j * (if ((2 : Nat) : Int) ∣ j * y then ((2 : Nat) : Int) else 0)) (M2 * 2) (fun j _ => by
      have h1 : ((M2 * 2 : Nat) : Int) ∣ 2 * j ↔ (M2 : Int) ∣ j := by
        rw [Int.natCast_mul, Int.mul_comm (M2 : Int)]
        exact ⟨fun h => Int.dvd_of_mul_dvd_mul_left (by decide) h, fun h => Int.mul_dvd_mul_left _ h⟩
      by_cases q : (M2 : Int) ∣ j
      · rw [if_pos (h1.mpr q), ind_1 q, Int.one_mul]
      · rw [if_neg (fun h => q (h1.mp h)), ind_0 q, Int.zero_mul])]
    rw [sum_step hM2 (fun j => if ((2 : Nat) : Int) ∣ j * y then ((2 : Nat) : Int) else 0) 2]
    simp only [sumN]
    rw [if_pos (by simp)]
    by_cases q : (2 : Int) ∣ (M2 : Int) * y
    · rw [if_pos q, if_pos (by simpa using q)]; rfl
    · rw [if_neg q, if_neg (by simpa using q)]; rfl
