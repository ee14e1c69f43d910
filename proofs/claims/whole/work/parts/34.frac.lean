/-! one fraction in lowest terms -/
/-- u / w in lowest terms is the fraction U / W -/
def Low (u w U W : Int) : Prop := 1 ≤ w ∧ 1 ≤ W ∧ Int.gcd u w = 1 ∧ u * W = U * w
theorem gcd_mul_g (g : Int) (hg : 0 ≤ g) (u w : Int) (h : Int.gcd u w = 1) : (Int.gcd (u * g) (w * g) : Int) = g := by
  rw [Int.gcd_mul_right, h]
  omega
theorem Low.eq {u w U W : Int} (h : Low u w U W) : U / (Int.gcd U W : Int) = u ∧ W / (Int.gcd U W : Int) = w := by
  obtain ⟨h1, h2, h3, h4⟩ := h
  have d1 : w ∣ W := by
    have t1 : w ∣ u * W := ⟨U, by rw [h4, Int.mul_comm]⟩
    obtain ⟨x, y, e⟩ := bezI u w
    rw [h3] at e
    have e2 : W = x * (u * W) + w * (y * W) := by
      have e3 : (x * u + y * w) * W = W := by rw [show x * u + y * w = 1 by omega, Int.one_mul]
      rw [Int.add_mul, Int.mul_assoc, Int.mul_comm y w, Int.mul_assoc] at e3
      exact e3.symm
    rw [e2]
    exact Int.dvd_add (Int.dvd_trans t1 (Int.dvd_mul_left ..)) (Int.dvd_mul_right ..)
  obtain ⟨g, hg⟩ := d1
  have hg0 : 0 < g := by
    rcases (show g ≤ 0 ∨ 0 < g by omega) with q | q
    · have := Int.mul_le_mul_of_nonneg_left q (show 0 ≤ w by omega)
      omega
    · exact q
  have hU : U = u * g := by
    have : U * w = u * g * w := by rw [← h4, hg, Int.mul_comm w g, Int.mul_assoc]
    exact Int.eq_of_mul_eq_mul_right (by omega) this
  have e : (Int.gcd U W : Int) = g := by
    rw [hU, hg]
    exact gcd_mul_g g (by omega) u w h3
  rw [e]
  exact ⟨by rw [hU]; exact Int.mul_ediv_cancel _ (by omega), by rw [hg]; exact Int.mul_ediv_cancel _ (by omega)⟩
theorem Low.le {u w U W : Int} (h : Low u w U W) : w ≤ W ∧ u.natAbs ≤ U.natAbs := by
  obtain ⟨e1, e2⟩ := h.eq
  obtain ⟨h1, h2, h3, h4⟩ := h
  have hg : 1 ≤ (Int.gcd U W : Int) := by
    have := Int.gcd_pos_of_ne_zero_right U (b := W) (by omega)
    omega
  refine ⟨?_, ?_⟩
  · rw [← e2]; exact Int.ediv_le_self _ (by omega)
  · have hd : (Int.gcd U W : Int) ∣ U := Int.gcd_dvd_left ..
    obtain ⟨c, hc⟩ := hd
    have hu : u = c := by rw [← e1]; exact Int.ediv_eq_of_eq_mul_right (by omega) hc
    rw [hu]
    have := congrArg Int.natAbs hc
    rw [Int.natAbs_mul] at this
    rw [this]
    exact Nat.le_mul_of_pos_left _ (by omega)
/-- what is made shorter by what both have in common is in lowest terms -/
theorem Low.cut {u w U W : Int} (hw : 1 ≤ w) (hW : 1 ≤ W) (h : u * W = U * w) : Low (u / (Int.gcd u w : Int)) (w / (Int.gcd u w : Int)) U W := by
  have hg : 1 ≤ (Int.gcd u w : Int) := by
    have := Int.gcd_pos_of_ne_zero_right u (b := w) (by omega)
    omega
  obtain ⟨a, ha⟩ : (Int.gcd u w : Int) ∣ u := Int.gcd_dvd_left ..
  obtain ⟨b, hb⟩ : (Int.gcd u w : Int) ∣ w := Int.gcd_dvd_right ..
  have ea : u / (Int.gcd u w : Int) = a := Int.ediv_eq_of_eq_mul_right (by omega) ha
  have eb : w / (Int.gcd u w : Int) = b := Int.ediv_eq_of_eq_mul_right (by omega) hb
  have hg2 : Int.gcd a b = 1 := by
    obtain ⟨x, y, e⟩ := bezI u w
    refine gcd_one_of (fun q q1 q2 => ?_)
    have e2 : x * a + y * b = 1 := by
      have e3 : (Int.gcd u w : Int) * (x * a + y * b) = (Int.gcd u w : Int) * 1 := by
        rw [Int.mul_add, Int.mul_left_comm, Int.mul_left_comm _ y b, ← ha, ← hb, Int.mul_one]
        omega
      exact Int.eq_of_mul_eq_mul_left (by omega) e3
    rw [← e2]
    exact Int.dvd_add (Int.dvd_trans q1 (Int.dvd_mul_left ..)) (Int.dvd_trans q2 (Int.dvd_mul_left ..))
  rw [ea, eb]
  generalize (Int.gcd u w : Int) = g at *
  have hb1 : 1 ≤ b := by
    rcases (show b ≤ 0 ∨ 1 ≤ b by omega) with q | q
    · have := Int.mul_le_mul_of_nonneg_left q (show 0 ≤ g by omega)
      omega
    · exact q
  refine ⟨hb1, hW, hg2, ?_⟩
  have e1 : (a * W) * g = (U * b) * g := by
    rw [Int.mul_right_comm, Int.mul_comm a g, ← ha, h, Int.mul_assoc, Int.mul_comm b g, ← hb]
  exact Int.eq_of_mul_eq_mul_right (by omega) e1
theorem bT_scale {c : Int} : ∀ (l : List Fib) (P : Int), (∀ y ∈ l, y.1 ∣ P ∧ y.1 ≠ 0) → bT (P * c) l = c * bT P l
  | [], P, _ => by simp [bT]
  | x :: t, P, h => by
    have h1 := bT_scale (c := c) t P (fun y hy => h y (List.mem_cons_of_mem _ hy))
    obtain ⟨⟨k, hk⟩, h3⟩ := h x List.mem_cons_self
    simp only [bT]
    rw [h1, Int.mul_add]
    congr 1
    rw [hk, Int.mul_assoc, Int.mul_ediv_cancel_left _ h3, Int.mul_ediv_cancel_left _ h3]
    rw [Int.mul_comm k c, ← Int.mul_assoc, ← Int.mul_assoc, Int.mul_comm x.2 c]
theorem bT_snoc (P : Int) (x : Fib) : ∀ l : List Fib, bT P (l ++ [x]) = bT P l + x.2 * (P / x.1)
  | [] => by simp [bT]
  | y :: t => by simp only [List.cons_append, bT]; rw [bT_snoc P x t]; omega
theorem pA_snoc (p : List Fib) (x : Fib) : pA (p ++ [x]) = pA p * x.1 := by rw [pA_app]; simp [pA]
theorem dvd_pA : ∀ {l : List Fib} {y : Fib}, y ∈ l → y.1 ∣ pA l
  | [], y, h => by simp at h
  | x :: t, y, h => by
    rcases List.mem_cons.mp h with rfl | h
    · exact Int.dvd_mul_right ..
    · exact Int.dvd_trans (dvd_pA h) (Int.dvd_mul_left ..)
def eU (z : Int) (p : List Fib) : Int := -(z * pA p + bT (pA p) p)
theorem eU_snoc {z : Int} {p : List Fib} {x : Fib} (hp : ∀ y ∈ p, y.1 ≠ 0) (hx : x.1 ≠ 0) : eU z (p ++ [x]) = eU z p * x.1 - pA p * x.2 := by
  unfold eU
  rw [pA_snoc, bT_snoc, bT_scale p (pA p) (fun y hy => ⟨dvd_pA hy, hp y hy⟩), Int.mul_ediv_cancel _ hx, ← Int.mul_assoc, Int.neg_mul, Int.add_mul, Int.mul_comm x.1 (bT (pA p) p), Int.mul_comm x.2 (pA p)]
  omega
theorem Low.step {u w U W a b : Int} (h : Low u w U W) (ha : 1 ≤ a) : (u * a - w * b) * (W * a) = (U * a - W * b) * (w * a) := by
  obtain ⟨-, -, -, e⟩ := h
  have e1 : (u * a - w * b) * W = (U * a - W * b) * w := by
    rw [Int.sub_mul, Int.sub_mul, Int.mul_right_comm u a W, e, Int.mul_right_comm U a w]
    rw [Int.mul_right_comm w b W, Int.mul_right_comm W b w, Int.mul_comm w W]
  rw [← Int.mul_assoc, ← Int.mul_assoc, e1]
section FRAC
variable {G : GT} {μ : Mem} {M : HV} {σ : St}
def OffU (μ μ' : Mem) : Prop := (∀ q : Nat, q ≠ 203 → μ' q = μ q) ∧ ∀ j : Int, j ≠ 18 → j ≠ 19 → μ' 203 j = μ 203 j
theorem OffU.rf : OffU μ μ := ⟨fun _ _ => rfl, fun _ _ _ => rfl⟩
theorem OffU.tr {μ1 μ2 : Mem} (h : OffU μ μ1) (h' : OffU μ1 μ2) : OffU μ μ2 := ⟨fun q a => by rw [h'.1 q a, h.1 q a], fun j a b => by rw [h'.2 j a b, h.2 j a b]⟩
theorem OffU.fld {μ1 : Mem} {j x : Int} (h : OffU μ μ1) (hj : j = 18 ∨ j = 19) : OffU μ (up μ1 203 j x) := ⟨fun q a => by rw [up_ne q a]; exact h.1 q a, fun i a b => by rw [up_r, if_neg (by omega)]; exact h.2 i a b⟩
theorem OffU.w {μ' : Mem} (h : OffU μ μ') : OffW μ μ' := ⟨fun q a _ _ _ _ _ _ _ => h.1 q a, fun j hj => h.2 j (by omega) (by omega)⟩
theorem m_least {u w : Int} (h1 : μ 203 18 = u) (h2 : μ 203 19 = w) (hu : -1000000000000000 ≤ u ∧ u ≤ 1000000000000000) (hw : 1 ≤ w ∧ w ≤ 1000000000000000) : Ctr G mX11_least [.ref 203] (Hp μ) (V0 (fun μ' => μ' 203 18 = u / (Int.gcd u w : Int) ∧ μ' 203 19 = w / (Int.gcd u w : Int) ∧ OffU μ μ')) := by
  refine Ctr.of ?_
  have hg1 := Int.gcd_pos_of_ne_zero_right u (b := w) (by omega)
  have hg2 := Int.gcd_le_right u (b := w) (by omega)
  have e1 : u.tdiv (Int.gcd u w : Int) = u / (Int.gcd u w : Int) := Int.tdiv_eq_ediv_of_dvd (Int.gcd_dvd_left ..)
  have e2 : w.tdiv (Int.gcd u w : Int) = w / (Int.gcd u w : Int) := Int.tdiv_eq_ediv_of_dvd (Int.gcd_dvd_right ..)
  refine E_aload_n dX11_least_0 rfl ?_
  refine GX11_183 sk_203 dX11_least_1 ?_
  rw [h1]
  refine E_aload_n dX11_least_4 rfl ?_
  refine GX11_187 sk_203 dX11_least_5 ?_
  rw [h2]
  refine E_callSR dX11_least_8 lkX11_143 (m_common (x := u) (z := w) (by omega) (by omega)) ?_
  refine E_lstore_n dX11_least_11 ?_
  refine E_aload_n dX11_least_12 rfl ?_
  refine E_dup dX11_least_13 ?_
  refine GX11_183 sk_203 dX11_least_14 ?_
  rw [h1]
  refine E_lload_n dX11_least_17 rfl ?_
  refine E_ldiv dX11_least_18 ?_
  rw [e1]
  refine PX11_183 sk_203 dX11_least_19 ?_
  refine E_aload_n dX11_least_22 rfl ?_
  refine E_dup dX11_least_23 ?_
  refine GX11_187 sk_203 dX11_least_24 ?_
  rw [up_r, if_neg (by omega), h2]
  refine E_lload_n dX11_least_27 rfl ?_
  refine E_ldiv dX11_least_28 ?_
  rw [e2]
  refine PX11_187 sk_203 dX11_least_29 ?_
  refine E_vret dX11_least_32 ?_
  exact ⟨rfl, _, rfl, by rw [up_r, if_neg (by omega), up_r, if_pos rfl], by rw [up_r, if_pos rfl], (OffU.rf.fld (Or.inl rfl)).fld (Or.inr rfl)⟩
theorem pre_ok {s : Sp} {p q : List Fib} (hok : spOk s) (h : p ++ q = s.2.2.2) : spOk (s.1, s.2.1, s.2.2.1, p) := by
  obtain ⟨o0, o1, o2, o3, o4, o5, o6⟩ := hok
  refine ⟨o0, o1, o2, o3, o4, ?_, fun x hx => o6 x (by rw [← h]; exact List.mem_append_left _ hx)⟩
  have := congrArg List.length h
  simp at this
  simp only
  omega
theorem fe_loop {i : Int} {s : Sp} (hi : isS i) (hs : RepN μ 204 (16 * i) s) (hok : spOk s) : ∀ (q p : List Fib) (u w : Int) (μ' : Mem), p ++ q = s.2.2.2 → μ' 203 18 = u → μ' 203 19 = w → Low u w (eU s.2.2.1 p) (pA p) → OffU μ μ' →
    E G mX11_findEuler (Zq G mX11_findEuler (V0 (fun μ' => Low (μ' 203 18) (μ' 203 19) (-(eT s)) (pA s.2.2.2) ∧ OffU μ μ'))) 0 0 24 [.ref 203, vi i, vi (p.length : Int)] [] (Hp μ') := by
  have hb := hok.2.2.2.2.2.1
  have j1 := hi.1
  have j2 := hi.2
  intro q
  induction q with
  | nil =>
    intro p u w μ' h1 hu hw hL h4
    have hs' := hs.kept (h4.1 204 (by decide))
    have hp : p.length = s.2.2.2.length := by rw [← h1]; simp
    have hpe : p = s.2.2.2 := by rw [← h1]; simp
    refine E_iload_n dX11_findEuler_24 rfl ?_
    refine E_aload_n dX11_findEuler_25 rfl ?_
    refine E_iload_n dX11_findEuler_26 rfl ?_
    refine E_callVR dX11_findEuler_27 lkX11_100 (Hp_get sk_203) (m_fibres hi hs') ?_
    refine E_icmp_ge 88 dX11_findEuler_30 (fun h30 => ?_) (fun h30 => ?_)
    · -- 88
      refine E_vret dX11_findEuler_88 ?_
      exact ⟨rfl, _, rfl, by rw [hu, hw]; rw [hpe] at hL; exact hL, h4⟩
    · -- 33
      exfalso; omega
  | cons x q ih =>
    intro p u w μ' h1 hu hw hL h4
    have hs' := hs.kept (h4.1 204 (by decide))
    have hp : p.length + 1 + q.length = s.2.2.2.length := by rw [← h1]; simp; omega
    obtain ⟨x1, x2, x3, x4, -⟩ := hok.2.2.2.2.2.2 x (by rw [← h1]; simp)
    have hat : s.2.2.2[p.length]? = some x := by rw [← h1]; simp
    have hpo := pre_ok hok h1
    have b1 := eT_rng hpo
    have b2 := pA_6 hpo
    have b1' : -800000000000 ≤ eU s.2.2.1 p ∧ eU s.2.2.1 p ≤ 800000000000 := by
      have e : eU s.2.2.1 p = -(eT (s.1, s.2.1, s.2.2.1, p)) := rfl
      rw [e]; omega
    have b3 := hL.le
    have w1 := hL.1
    have b4 : w ≤ 729000000 := by have : pA p ≤ 729000000 := b2.2; omega
    have m1 := Int.mul_le_mul_of_nonneg_left x2 (show 0 ≤ w by omega)
    have m2 := Int.mul_le_mul_of_nonneg_left (show 1 ≤ x.1 by omega) (show 0 ≤ w by omega)
    have m3 := Int.mul_le_mul_of_nonneg_left (show x.2 ≤ 30 by omega) (show 0 ≤ w by omega)
    have m4 := Int.mul_nonneg (show 0 ≤ w by omega) (show 0 ≤ x.2 by omega)
    have m5 := Int.mul_le_mul_of_nonneg_right (show u ≤ 800000000000 by omega) (show 0 ≤ x.1 by omega)
    have m6 := Int.mul_le_mul_of_nonneg_right (show -800000000000 ≤ u by omega) (show 0 ≤ x.1 by omega)
    have hW : 1 ≤ pA (p ++ [x]) := (pA_6 (pre_ok (p := p ++ [x]) (q := q) hok (by rw [← h1]; simp))).1
    have hcut := Low.cut (u := u * x.1 - w * x.2) (w := w * x.1) (U := eU s.2.2.1 (p ++ [x])) (W := pA (p ++ [x])) (by omega) hW (by
      rw [eU_snoc (fun y hy => by have := (hok.2.2.2.2.2.2 y (by rw [← h1]; simp [hy])).1; omega) (by omega), pA_snoc]
      exact hL.step (by omega))
    refine E_iload_n dX11_findEuler_24 rfl ?_
    refine E_aload_n dX11_findEuler_25 rfl ?_
    refine E_iload_n dX11_findEuler_26 rfl ?_
    refine E_callVR dX11_findEuler_27 lkX11_100 (Hp_get sk_203) (m_fibres hi hs') ?_
    refine E_icmp_ge 88 dX11_findEuler_30 (fun h30 => ?_) (fun h30 => ?_)
    · -- 88
      exfalso; omega
    · -- 33
      refine E_aload_n dX11_findEuler_33 rfl ?_
      refine E_aload_n dX11_findEuler_34 rfl ?_
      refine GX11_183 sk_203 dX11_findEuler_35 ?_
      rw [hu]
      refine E_aload_n dX11_findEuler_38 rfl ?_
      refine E_iload_n dX11_findEuler_39 rfl ?_
      refine E_iload_n dX11_findEuler_40 rfl ?_
      refine E_callVR dX11_findEuler_41 lkX11_90 (Hp_get sk_203) (m_a hi hs' (by omega) hat) ?_
      refine E_i2l dX11_findEuler_44 ?_
      refine E_lmul dX11_findEuler_45 ?_
      refine E_aload_n dX11_findEuler_46 rfl ?_
      refine GX11_187 sk_203 dX11_findEuler_47 ?_
      rw [hw]
      refine E_aload_n dX11_findEuler_50 rfl ?_
      refine E_iload_n dX11_findEuler_51 rfl ?_
      refine E_iload_n dX11_findEuler_52 rfl ?_
      refine E_callVR dX11_findEuler_53 lkX11_93 (Hp_get sk_203) (m_b hi hs' (by omega) hat) ?_
      refine E_i2l dX11_findEuler_56 ?_
      refine E_lmul dX11_findEuler_57 ?_
      refine E_lsub dX11_findEuler_58 ?_
      refine PX11_183 sk_203 dX11_findEuler_59 ?_
      refine E_aload_n dX11_findEuler_62 rfl ?_
      refine E_dup dX11_findEuler_63 ?_
      refine GX11_187 sk_203 dX11_findEuler_64 ?_
      rw [up_r, if_neg (by omega), hw]
      refine E_aload_n dX11_findEuler_67 rfl ?_
      refine E_iload_n dX11_findEuler_68 rfl ?_
      refine E_iload_n dX11_findEuler_69 rfl ?_
      refine E_callVR dX11_findEuler_70 lkX11_90 (Hp_get sk_203) (m_a hi (hs'.kept (up_ne 204 (by decide))) (by omega) hat) ?_
      refine E_i2l dX11_findEuler_73 ?_
      refine E_lmul dX11_findEuler_74 ?_
      refine PX11_187 sk_203 dX11_findEuler_75 ?_
      refine E_aload_n dX11_findEuler_78 rfl ?_
      refine E_callVV dX11_findEuler_79 lkX11_190 (Hp_get sk_203) (m_least (u := u * x.1 - w * x.2) (w := w * x.1) (by rw [up_r, if_neg (by omega), up_r, if_pos rfl]) (by rw [up_r, if_pos rfl]) (by omega) (by omega)) ?_
      rintro μ2 ⟨g1, g2, g3⟩
      refine E_iinc dX11_findEuler_82 rfl ?_
      refine E_goto 24 dX11_findEuler_85 ?_
      have t := ih (p ++ [x]) _ _ μ2 (by rw [← h1]; simp) g1 g2 hcut (((h4.fld (Or.inl rfl)).fld (Or.inr rfl)).tr g3)
      rw [show ((p ++ [x]).length : Int) = (p.length : Int) + 1 by simp] at t
      exact t
theorem m_findEuler {i : Int} {s : Sp} (hi : isS i) (hs : RepN μ 204 (16 * i) s) (hok : spOk s) : Ctr G mX11_findEuler [.ref 203, vi i] (Hp μ) (V0 (fun μ' => Low (μ' 203 18) (μ' 203 19) (-(eT s)) (pA s.2.2.2) ∧ OffU μ μ')) := by
  refine Ctr.of ?_
  have j1 := hi.1
  have j2 := hi.2
  obtain ⟨o0, o1, o2, o3, o4, o5, o6⟩ := id hok
  refine E_aload_n dX11_findEuler_0 rfl ?_
  refine E_aload_n dX11_findEuler_1 rfl ?_
  refine GX11_7 sk_203 dX11_findEuler_2 ?_
  refine E_bipush dX11_findEuler_5 ?_
  refine E_iload_n dX11_findEuler_7 rfl ?_
  refine E_imul dX11_findEuler_8 ?_
  refine E_iconst dX11_findEuler_9 ?_
  refine E_iadd dX11_findEuler_10 ?_
  refine H_iald sk_204 dX11_findEuler_11 ?_
  rw [hs.2.2.1]
  refine E_ineg dX11_findEuler_12 ?_
  refine E_i2l dX11_findEuler_13 ?_
  refine PX11_183 sk_203 dX11_findEuler_14 ?_
  refine E_aload_n dX11_findEuler_17 rfl ?_
  refine E_lconst1 dX11_findEuler_18 ?_
  refine PX11_187 sk_203 dX11_findEuler_19 ?_
  refine E_iconst dX11_findEuler_22 ?_
  refine E_istore_n dX11_findEuler_23 ?_
  refine fe_loop (μ := μ) hi hs hok s.2.2.2 [] (-s.2.2.1) 1 _ rfl (by rw [up_r, if_neg (by omega), up_r, if_pos rfl]) (by rw [up_r, if_pos rfl]) ⟨by omega, by simp [pA], by simp, by simp [eU, pA, bT]⟩ ((OffU.rf.fld (Or.inl rfl)).fld (Or.inr rfl))
end FRAC
