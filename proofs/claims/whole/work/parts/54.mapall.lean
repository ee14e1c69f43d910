/-! the numbers of maps, both ways -/
theorem way_all {s : Sp} (hok : spOk s) {m : Nat} (hm : 0 < m) : ∃ (K D M : Nat) (T : Int), m = D * M ∧ D = Nat.gcd (lbS 1 0 1 s.2.2.2).1 m ∧ (m : Int) ∣ (lbS 1 0 1 s.2.2.2).1 * T + D * (lbS 1 0 1 s.2.2.2).2.1 ∧ K * D = gcF m s.2.2.2 ∧ ∀ h z, wayM m h s.2.2.2 (ind m) z = cosW K D M T h z := by
  obtain ⟨K, D, M, T, k1, k2, k3, k4, k5, k6⟩ := way_cos hm s.2.2.2 hok.2.2.2.2.2.2 1 1 m 1 1 0 0 (by simp) (by omega) (by simp) (by simp)
  refine ⟨K, D, M, T, k1, k3, k4, by rw [k5]; simp, fun h z => ?_⟩
  rw [← k6 h z]
  refine wayM_congr _ (fun z => ?_) z
  unfold cosW
  rw [if_pos (by simp)]
  simp
def nZ (s : Sp) (m : Nat) : Int := sumN m (fun h => wayM m h s.2.2.2 (ind m) (s.2.2.1 * h))
def nO (s : Sp) (m : Nat) : Int := sumN m (fun h => if (2 * h) % m = 0 then sumN m (fun v => wayM m h s.2.2.2 (ind m) (s.2.2.1 * h - 2 * v)) else 0)
theorem gcd_abs (ε : Int) (M : Nat) : Int.gcd ε M = Nat.gcd ε.natAbs M := by simp [Int.gcd]
theorem c4_eq {M : Nat} (hM : 0 < M) {y ε : Int} (hp : 2 ∣ M → ((2 : Int) ∣ y ↔ (2 : Int) ∣ ε)) : c4 M y = (Nat.gcd (Nat.gcd ε.natAbs 2) M * Nat.gcd (4 / Nat.gcd ε.natAbs 2) M : Nat) := by
  unfold c4
  by_cases ho : M % 2 = 1
  · rw [if_pos ho]
    have g1 : Nat.gcd 2 M = 1 := by rw [Nat.gcd_rec, ho]; rfl
    have g4 : Nat.gcd 4 M = 1 := by
      have : Nat.Coprime (2 * 2) M := Nat.Coprime.mul_left g1 g1
      exact this
    have hg : Nat.gcd ε.natAbs 2 = 1 ∨ Nat.gcd ε.natAbs 2 = 2 := by
      have := Nat.le_of_dvd (by decide) (Nat.gcd_dvd_right ε.natAbs 2)
      have := Nat.gcd_pos_of_pos_right ε.natAbs (show 0 < 2 by decide)
      omega
    rcases hg with h | h <;> rw [h]
    · simp [g4]
    · simp [g1]
  · rw [if_neg ho]
    have h2M : 2 ∣ M := by omega
    have hp := hp h2M
    have g2 : Nat.gcd 2 M = 2 := Nat.gcd_eq_left h2M
    by_cases he : (2 : Int) ∣ ε
    · have h2 : Nat.gcd ε.natAbs 2 = 2 := Nat.gcd_eq_right (by omega)
      rw [h2, if_pos (Int.dvd_trans (hp.mpr he) (Int.dvd_mul_left ..))]
      simp [g2]
    · have h1 : Nat.gcd ε.natAbs 2 = 1 := by
        have := Nat.le_of_dvd (by decide) (Nat.gcd_dvd_right ε.natAbs 2)
        have := Nat.gcd_pos_of_pos_right ε.natAbs (show 0 < 2 by decide)
        rcases (show Nat.gcd ε.natAbs 2 = 1 ∨ Nat.gcd ε.natAbs 2 = 2 by omega) with h | h
        · exact h
        · exfalso
          apply he
          have := Nat.gcd_dvd_left ε.natAbs 2
          rw [h] at this
          omega
      have hy : ¬ (2 : Int) ∣ y := fun h => he (hp.mp h)
      rw [h1]
      have hiff : (2 : Int) ∣ ((M / 2 : Nat) : Int) * y ↔ 4 ∣ M := by
        constructor
        · intro h
          have hyo : y % 2 = 1 := by omega
          have hm2 : ((((M / 2 : Nat) : Int) * y) % 2) = ((M / 2 : Nat) : Int) % 2 := by rw [Int.mul_emod, hyo]; simp
          have h3 := Int.emod_eq_zero_of_dvd h
          rw [hm2] at h3
          omega
        · intro h
          exact Int.dvd_trans (show (2 : Int) ∣ ((M / 2 : Nat) : Int) by omega) (Int.dvd_mul_right ..)
      by_cases h4 : 4 ∣ M
      · rw [if_pos (hiff.mpr h4)]
        simp [Nat.gcd_eq_left h4]
      · rw [if_neg (fun h => h4 (hiff.mp h))]
        have hg4 : Nat.gcd 4 M = 2 := by
          have e : M % 4 = 2 := by omega
          rw [Nat.gcd_rec, e]; rfl
        simp [hg4]
theorem nZ_eq {s : Sp} (hok : spOk s) {F : List Nat} {c L : Nat} {ε : Int} {m : Nat} (hm : 0 < m) (hG : gcF m s.2.2.2 = gcN m F * Nat.gcd c m * Nat.gcd L m) (hcL : c ∣ L) (hL : (lbS 1 0 1 s.2.2.2).1 = L) (hε : ε = s.2.2.1 * L + (lbS 1 0 1 s.2.2.2).2.1) (hQ : ∀ x : Nat, (x : Int) ∣ ε → x * c ∣ L → x = 1) : nZ s m = (gcN m F * Nat.gcd (c * ε.natAbs) m : Nat) := by
  obtain ⟨K, D, M, T, k1, k2, k3, k4, k5⟩ := way_all hok hm
  rw [hL] at k2 k3
  have hD : 0 < D := Nat.pos_of_ne_zero (fun h => by rw [h, Nat.zero_mul] at k1; omega)
  have hK : K = gcN m F * Nat.gcd c m := by
    rw [hG, ← k2] at k4
    exact Nat.eq_of_mul_eq_mul_right hD k4
  unfold nZ
  rw [sumN_congr (g := fun h => cosW K D M T h (s.2.2.1 * h)) m (fun h _ => k5 h _), cos_0 hm k1, gcd_of_iff (fun n hn => eps_iff (sh := s.2.2.1) hm k1 k2 k3 hn), ← hε, gcd_abs, gm_1 hm k1 k2 hcL (fun x h1 h2 => hQ x (Int.ofNat_dvd_left.mpr h1) h2), hK]
  simp only [Int.natCast_mul, Int.mul_assoc]
theorem nO_eq {s : Sp} (hok : spOk s) {F : List Nat} {c L : Nat} {ε : Int} {m : Nat} (hm : 0 < m) (hG : gcF m s.2.2.2 = gcN m F * Nat.gcd c m * Nat.gcd L m) (hcL : c ∣ L) (hL : (lbS 1 0 1 s.2.2.2).1 = L) (hε : ε = s.2.2.1 * L + (lbS 1 0 1 s.2.2.2).2.1) (hQ : ∀ x : Nat, (x : Int) ∣ ε → x * c ∣ L → x = 1) : nO s m = (gcN m F * Nat.gcd (c * Nat.gcd ε.natAbs 2) m * Nat.gcd (4 / Nat.gcd ε.natAbs 2 * L) m : Nat) := by
  obtain ⟨K, D, M, T, k1, k2, k3, k4, k5⟩ := way_all hok hm
  rw [hL] at k2 k3
  have hD : 0 < D := Nat.pos_of_ne_zero (fun h => by rw [h, Nat.zero_mul] at k1; omega)
  have hM : 0 < M := Nat.pos_of_ne_zero (fun h => by rw [h, Nat.mul_zero] at k1; omega)
  have hK : K = gcN m F * Nat.gcd c m := by
    rw [hG, ← k2] at k4
    exact Nat.eq_of_mul_eq_mul_right hD k4
  unfold nO
  rw [sumN_congr (g := fun h => if (2 * h) % m = 0 then sumN m (fun v => cosW K D M T h (s.2.2.1 * h - 2 * v)) else 0) m (fun h _ => by rw [sumN_congr (g := fun v => cosW K D M T h (s.2.2.1 * h - 2 * v)) m (fun v _ => k5 h _)]), cos_1 hm k1]
  rw [c4_eq (ε := ε) hM (fun h2 => by have := eps_iff (sh := s.2.2.1) (n := 2) hm k1 k2 k3 h2; rw [← hε] at this; exact this)]
  rw [gm_1 (e := Nat.gcd ε.natAbs 2) hm k1 k2 hcL (fun x h1 h2 => hQ x (Int.ofNat_dvd_left.mpr (Nat.dvd_trans h1 (Nat.gcd_dvd_left ..))) h2), gm_2 (k := 4 / Nat.gcd ε.natAbs 2) hm k1 k2, hK]
  simp only [← Int.natCast_mul]
  congr 1
  grind
theorem map_0 {s : Sp} (hok : spOk s) (h0 : s.1 = 0) {m : Nat} (hm : 0 < m) : mapS s m = (m : Int) ^ (2 * s.2.1).toNat * nZ s m := by
  obtain ⟨F, c, L, ε, p1, p2, p3, p4, p5, p6, p7, p8, p9, p10, p11, p12, p13, -⟩ := tor_facts hok
  have hg := hok.2.1
  rw [nZ_eq hok hm (p9 m hm) p10 p11 p12 p13]
  unfold mapS mapC rankC
  rw [if_pos h0, p4 h0]
  by_cases he : eT s = 0
  · have h1 := p6.mp he
    rw [if_pos he, h1]
    simp only [Int.natAbs_zero, Nat.mul_zero, Int.natCast_zero]
    rw [show add1 (foldT F) 0 = foldT F from if_neg (by omega), gcP_foldT p1, Nat.gcd_zero_left, show (2 * s.2.1 + 1).toNat = (2 * s.2.1).toNat + 1 by omega, Int.pow_succ, Int.natCast_mul, Int.mul_assoc, Int.mul_comm (m : Int)]
  · have h1 : ε ≠ 0 := fun h => he (p6.mpr h)
    have h2 : 0 < c * ε.natAbs := Nat.mul_pos p2 (by omega)
    rw [if_neg he, gcP_add1 (by omega), gcP_foldT p1, Int.gcd_natCast_natCast, Int.add_zero, Int.natCast_mul]
theorem map_1 {s : Sp} (hok : spOk s) (h0 : ¬ s.1 = 0) {m : Nat} (hm : 0 < m) : mapS s m = (m : Int) ^ (s.2.1 - 1).toNat * nO s m := by
  obtain ⟨F, c, L, ε, p1, p2, p3, p4, p5, p6, p7, p8, p9, p10, p11, p12, p13, -⟩ := tor_facts hok
  rw [nO_eq hok hm (p9 m hm) p10 p11 p12 p13]
  have hg : 0 < Nat.gcd ε.natAbs 2 := Nat.gcd_pos_of_pos_right _ (by decide)
  have hg2 : Nat.gcd ε.natAbs 2 ≤ 2 := Nat.le_of_dvd (by decide) (Nat.gcd_dvd_right ..)
  have h4 : 0 < 4 / Nat.gcd ε.natAbs 2 := Nat.div_pos (by omega) hg
  have q1 := Nat.mul_pos p2 hg
  have q2 := Nat.mul_pos h4 p3
  unfold mapS mapC rankC
  rw [if_neg h0, p5 h0, gcP_add1 (by omega), gcP_add1 (by omega), gcP_foldT p1, Int.gcd_natCast_natCast, Int.gcd_natCast_natCast, Int.natCast_mul, Int.natCast_mul]
