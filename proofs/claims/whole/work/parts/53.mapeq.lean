/-! the numbers of maps by the torsion -/
theorem ntL_cst : ∀ (l : List Fib), (∀ x ∈ l, fibOk x) → l.map Prod.fst = cst (ntL l)
  | [], _ => rfl
  | x :: t, h => by
    have h1 := (h x List.mem_cons_self).1
    simp only [List.map_cons, ntL, cst]
    rw [show Int.ofNat x.1.toNat = x.1 by simp; omega]
    congr 1
    exact ntL_cst t (fun y hy => h y (List.mem_cons_of_mem _ hy))
theorem pA_ntL : ∀ (l : List Fib), (∀ x ∈ l, fibOk x) → pA l = (prN (ntL l) : Int)
  | [], _ => rfl
  | x :: t, h => by
    have h1 := (h x List.mem_cons_self).1
    have ih := pA_ntL t (fun y hy => h y (List.mem_cons_of_mem _ hy))
    show x.1 * pA t = ((x.1.toNat * prN (ntL t) : Nat) : Int)
    rw [ih, Int.natCast_mul, show ((x.1.toNat : Nat) : Int) = x.1 by omega]
theorem gcF_ntL (m : Nat) : ∀ (l : List Fib), gcF m l = gcN m (ntL l)
  | [] => rfl
  | x :: t => by
    show Nat.gcd x.1.toNat m * gcF m t = Nat.gcd x.1.toNat m * gcN m (ntL t)
    rw [gcF_ntL m t]
theorem prI_cst : ∀ l : List Nat, prI (cst l) = (prN l : Int)
  | [] => rfl
  | x :: t => by
    show (x : Int) * prI (cst t) = ((x * prN t : Nat) : Int)
    rw [prI_cst t, Int.natCast_mul]
theorem take_cst (l : List Nat) (k : Nat) : (cst l).take k = cst (l.take k) := by
  unfold cst; rw [List.map_take]
def foldT (F : List Nat) : List Int := (cst F).foldl add1 []
theorem prN_pos : ∀ {l : List Nat}, 0 < prN l → ∀ x ∈ l, 0 < x
  | [], _, x, hx => by simp at hx
  | y :: t, h, x, hx => by
    have h1 : 0 < y := Nat.pos_of_mul_pos_right (show 0 < y * prN t from h)
    have h2 : 0 < prN t := Nat.pos_of_mul_pos_left (show 0 < y * prN t from h)
    rcases List.mem_cons.mp hx with rfl | hx
    · exact h1
    · exact prN_pos h2 x hx
/-- the torsion of a space in few words -/
theorem tor_facts {s : Sp} (hok : spOk s) : ∃ (F : List Nat) (c L : Nat) (ε : Int), 0 < prN F ∧ 0 < c ∧ 0 < L ∧
    (s.1 = 0 → torC s = add1 (foldT F) ((c * ε.natAbs : Nat) : Int)) ∧ (¬ s.1 = 0 → torC s = add1 (add1 (foldT F) ((c * Nat.gcd ε.natAbs 2 : Nat) : Int)) ((4 / Nat.gcd ε.natAbs 2 * L : Nat) : Int)) ∧ (eT s = 0 ↔ ε = 0) ∧ eT s = prN F * c * ε ∧ prN (ntL s.2.2.2) = prN F * c * L ∧
    (∀ m, 0 < m → gcF m s.2.2.2 = gcN m F * Nat.gcd c m * Nat.gcd L m) ∧ c ∣ L ∧ (lbS 1 0 1 s.2.2.2).1 = L ∧ ε = s.2.2.1 * L + (lbS 1 0 1 s.2.2.2).2.1 ∧ (∀ x : Nat, (x : Int) ∣ ε → x * c ∣ L → x = 1) ∧ (chN (ntL s.2.2.2).length (ntL s.2.2.2)).take ((ntL s.2.2.2).length - 2) = F ∧ List.replicate (2 - (ntL s.2.2.2).length) 1 ++ chN (ntL s.2.2.2).length (ntL s.2.2.2) = F ++ [c, L] := by
  have hf := hok.2.2.2.2.2.2
  obtain ⟨F, c, L, f1, f2, f3, f4, f5, f6, f7, f8, f9⟩ := ch_facts (ntL s.2.2.2)
  have hP := pA_ntL s.2.2.2 hf
  have hPp := (pA_6 hok).1
  have hprod : 0 < prN F * c * L := by rw [← f3]; omega
  have hL : 0 < L := Nat.pos_of_mul_pos_left hprod
  have hFc : 0 < prN F * c := Nat.pos_of_mul_pos_right hprod
  have hc : 0 < c := Nat.pos_of_mul_pos_left hFc
  have hF : 0 < prN F := Nat.pos_of_mul_pos_right hFc
  obtain ⟨l1, l2, l3⟩ := lb_L s.2.2.2 1 1 0
  have eL : (lbS 1 0 1 s.2.2.2).1 = L := Nat.dvd_antisymm (l3 L (Nat.one_dvd L) f6) (f7 _ l2)
  have hB := lb_B s.2.2.2 [] 1 1 0 (fun x hx => (hf x (by simpa using hx)).1) (by omega) (by simp [pA, bT])
  rw [List.nil_append, eL] at hB
  have hS := lb_sec (c := c) s.2.2.2 1 1 0 (fun x hx => by have := (hf x hx).1; omega) (Nat.one_dvd c) (fun e _ => by rw [Nat.gcd_one_right]; exact Nat.one_dvd c) f8
  have hQ := lb_cop (sh := s.2.2.1) s.2.2.2 hf 1 1 0 (by omega) (by omega) (Nat.dvd_refl _) (fun x _ h => by simpa using h)
  have hE : eT s = prN F * c * (s.2.2.1 * L + (lbS 1 0 1 s.2.2.2).2.1) := by
    have e1 : eT s * L = (prN F * c * (s.2.2.1 * L + (lbS 1 0 1 s.2.2.2).2.1)) * L := by
      unfold eT
      rw [Int.add_mul, ← hB, hP, f3]
      simp only [Int.natCast_mul]
      grind
    exact Int.eq_of_mul_eq_mul_right (by omega) e1
  generalize hε : s.2.2.1 * (L : Int) + (lbS 1 0 1 s.2.2.2).2.1 = ε at hE
  have hQ2 : ∀ x : Nat, (x : Int) ∣ ε → x * c ∣ L → x = 1 := fun x h1 h2 => hQ x (by rw [eL, hε]; exact h1) (by rw [eL]; exact Nat.dvd_trans (Nat.mul_dvd_mul_left x hS) h2)
  have hFc0 : ((prN F : Int) * c) ≠ 0 := by
    have : ((prN F * c : Nat) : Int) ≠ 0 := by omega
    rw [Int.natCast_mul] at this; exact this
  have h0 : eT s = 0 ↔ ε = 0 := by
    rw [hE]
    constructor
    · intro h
      rcases Int.mul_eq_zero.mp h with h | h
      · exact absurd h hFc0
      · exact h
    · intro h; rw [h, Int.mul_zero]
  have hN : (eT s).natAbs = prN F * (c * ε.natAbs) := by
    rw [hE, Int.natAbs_mul, Int.natAbs_mul, Int.natAbs_natCast, Int.natAbs_natCast, Nat.mul_assoc]
  have hlen : s.2.2.2.length = (ntL s.2.2.2).length := by simp [ntL]
  have hch : chain (s.2.2.2.map Prod.fst) = cst (chN (ntL s.2.2.2).length (ntL s.2.2.2)) := by
    unfold chain
    rw [ntL_cst _ hf, ch_cast]
    congr 2
    simp [cst]
  refine ⟨F, c, L, ε, hF, hc, hL, fun k => ?_, fun k => ?_, h0, hE, f3, fun m hm => by rw [gcF_ntL, f4 m hm], f5, eL, hε.symm, hQ2, f1, f9⟩
  · unfold torC
    simp only
    rw [if_pos k, hch, hlen, take_cst, f1, prI_cst]
    unfold foldT
    congr 1
    rw [hN, Int.natCast_mul, Int.mul_ediv_cancel_left _ (by omega)]
  · unfold torC
    simp only
    rw [if_neg k, hch, hlen, take_cst, take_cst, f1, prI_cst, prI_cst, prI_cst, f2, ch_pr _ _ rfl, f3]
    have e1 : (Int.gcd ((eT s).natAbs : Int) (2 * ((prN F * c : Nat) : Int)) : Int) = ((prN F * (c * Nat.gcd ε.natAbs 2) : Nat) : Int) := by
      rw [hN, show (2 * ((prN F * c : Nat) : Int)) = ((prN F * (c * 2) : Nat) : Int) by simp only [Int.natCast_mul]; grind, Int.gcd_natCast_natCast, Nat.gcd_mul_left, Nat.gcd_mul_left]
    have hg2 : 0 < Nat.gcd ε.natAbs 2 := Nat.gcd_pos_of_pos_right _ (by decide)
    rw [e1]
    unfold foldT
    congr 1
    · congr 1
      rw [Int.natCast_mul, Int.mul_ediv_cancel_left _ (by omega)]
    · have e2 : 4 * (((prN F * c * L : Nat) : Nat) : Int) = ((prN F * (c * Nat.gcd ε.natAbs 2) : Nat) : Int) * ((4 / Nat.gcd ε.natAbs 2 * L : Nat) : Int) := by
        have e3 : Nat.gcd ε.natAbs 2 * (4 / Nat.gcd ε.natAbs 2) = 4 := Nat.mul_div_cancel' (Nat.dvd_trans (Nat.gcd_dvd_right ..) (by decide))
        rw [← Int.natCast_mul, show (4 : Int) = ((4 : Nat) : Int) from rfl, ← Int.natCast_mul]
        congr 1
        conv => lhs; rw [← e3]
        grind
      rw [e2, Int.mul_ediv_cancel_left]
      have := Nat.mul_pos hF (Nat.mul_pos hc hg2)
      omega
theorem gcP_app (m : Int) (p q : List Int) : gcP m (p ++ q) = gcP m p * gcP m q := by
  induction p with
  | nil => simp [gcP]
  | cons x t ih => simp [gcP, ih, Int.mul_assoc]
theorem gcP_add1 {m : Int} {T : List Int} {x : Int} (hx : 1 ≤ x) : gcP m (add1 T x) = gcP m T * (Int.gcd x m : Int) := by
  unfold add1
  split
  · rw [gcP_app]; simp [gcP]
  · rw [show x = 1 by omega]; simp
theorem gcP_fold {m : Nat} : ∀ (F : List Nat) (T : List Int), (∀ x ∈ F, 0 < x) → gcP m ((cst F).foldl add1 T) = gcP m T * (gcN m F : Int)
  | [], T, _ => by simp [cst, gcN]
  | x :: F, T, h => by
    show gcP m ((cst F).foldl add1 (add1 T (x : Int))) = _
    have := h x List.mem_cons_self
    rw [gcP_fold F _ (fun y hy => h y (List.mem_cons_of_mem _ hy)), gcP_add1 (by omega), Int.gcd_natCast_natCast]
    show _ = gcP m T * ((Nat.gcd x m * gcN m F : Nat) : Int)
    rw [Int.natCast_mul, Int.mul_assoc]
theorem gcP_foldT {m : Nat} {F : List Nat} (h : 0 < prN F) : gcP m (foldT F) = (gcN m F : Int) := by
  unfold foldT
  rw [gcP_fold F [] (prN_pos h)]; simp [gcP]
theorem gm_1 {m D M L c e : Nat} (hm : 0 < m) (hDM : m = D * M) (hDL : D = Nat.gcd L m) (hcL : c ∣ L) (hQ : ∀ x : Nat, x ∣ e → x * c ∣ L → x = 1) : Nat.gcd (c * e) m = Nat.gcd c m * Nat.gcd e M := by
  obtain ⟨w, hw⟩ := hcL
  obtain ⟨c1, m1, hc, hc1, hm1⟩ := Nat.exists_coprime c m
  have hγ : 0 < Nat.gcd c m := Nat.gcd_pos_of_pos_right _ hm
  generalize Nat.gcd c m = γ at hc1 hm1 hγ
  have hD : D = γ * Nat.gcd w m1 := by
    rw [hDL, hw, hc1, hm1, Nat.mul_assoc, Nat.mul_comm γ w, ← Nat.mul_assoc, Nat.gcd_mul_right, Nat.Coprime.gcd_mul_left_cancel _ hc, Nat.mul_comm]
  have hM1 : m1 = Nat.gcd w m1 * M := by
    have : γ * m1 = γ * (Nat.gcd w m1 * M) := by rw [← Nat.mul_assoc, ← hD, ← hDM, Nat.mul_comm]; exact hm1.symm
    exact Nat.eq_of_mul_eq_mul_left hγ this
  have h1 : Nat.gcd (c * e) m = γ * Nat.gcd e m1 := by
    rw [hc1, hm1, Nat.mul_assoc, Nat.mul_comm γ e, ← Nat.mul_assoc, Nat.gcd_mul_right, Nat.Coprime.gcd_mul_left_cancel _ hc, Nat.mul_comm]
  rw [h1]
  congr 1
  have hMm : M ∣ m1 := by rw [hM1]; exact Nat.dvd_mul_left ..
  refine Nat.dvd_antisymm (Nat.dvd_gcd (Nat.gcd_dvd_left ..) ?_) (Nat.gcd_dvd_gcd_of_dvd_right _ hMm)
  have h2 : Nat.gcd (Nat.gcd e m1) (Nat.gcd w m1) = 1 := by
    refine hQ _ (Nat.dvd_trans (Nat.gcd_dvd_left ..) (Nat.gcd_dvd_left ..)) ?_
    rw [hw, Nat.mul_comm]
    exact Nat.mul_dvd_mul_left c (Nat.dvd_trans (Nat.gcd_dvd_right ..) (Nat.gcd_dvd_left ..))
  refine Nat.Coprime.dvd_of_dvd_mul_left h2 ?_
  rw [← hM1]; exact Nat.gcd_dvd_right ..
theorem gm_2 {m D M L k : Nat} (hm : 0 < m) (hDM : m = D * M) (hDL : D = Nat.gcd L m) : Nat.gcd (k * L) m = D * Nat.gcd k M := by
  have hD : 0 < D := Nat.pos_of_ne_zero (fun h => by rw [h, Nat.zero_mul] at hDM; omega)
  obtain ⟨l, hl⟩ : D ∣ L := by rw [hDL]; exact Nat.gcd_dvd_left ..
  have hc : Nat.Coprime l M := by
    have h := hDL
    rw [hl, hDM, Nat.gcd_mul_left] at h
    exact Nat.eq_of_mul_eq_mul_left hD (by omega)
  rw [hl, hDM, show k * (D * l) = D * (l * k) by grind, Nat.gcd_mul_left, Nat.Coprime.gcd_mul_left_cancel _ hc]
