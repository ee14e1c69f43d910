/-! FibredSpacesModel: euler, over, geometry, rank -/
theorem kT_scale {c : Int} : ∀ (l : List Fib) (P : Int), (∀ y ∈ l, y.1 ∣ P ∧ y.1 ≠ 0) → kT (P * c) l = c * kT P l
  | [], P, _ => by simp [kT]
  | x :: t, P, h => by
    have h1 := kT_scale (c := c) t P (fun y hy => h y (List.mem_cons_of_mem _ hy))
    obtain ⟨⟨k, hk⟩, h3⟩ := h x List.mem_cons_self
    simp only [kT]
    rw [h1, Int.mul_add, Int.mul_sub]
    congr 1
    rw [hk, Int.mul_assoc, Int.mul_ediv_cancel_left _ h3, Int.mul_ediv_cancel_left _ h3]
    rw [Int.mul_comm k c, ← Int.mul_assoc, ← Int.mul_assoc, Int.mul_comm x.1 c]
theorem kT_snoc (P : Int) (x : Fib) : ∀ l : List Fib, kT P (l ++ [x]) = kT P l + (P - P / x.1)
  | [] => by simp [kT]
  | y :: t => by simp only [List.cons_append, kT]; rw [kT_snoc P x t]; omega
def oU (z : Int) (p : List Fib) : Int := z * pA p - kT (pA p) p
theorem oU_snoc {z : Int} {p : List Fib} {x : Fib} (hp : ∀ y ∈ p, y.1 ≠ 0) (hx : x.1 ≠ 0) : oU z (p ++ [x]) = oU z p * x.1 - pA p * (x.1 - 1) := by
  unfold oU
  rw [pA_snoc, kT_snoc, kT_scale p (pA p) (fun y hy => ⟨dvd_pA hy, hp y hy⟩), Int.mul_ediv_cancel _ hx, ← Int.mul_assoc, Int.sub_mul, Int.mul_comm x.1 (kT (pA p) p), Int.mul_sub, Int.mul_one]
  omega
def chX (s : Sp) : Int := if s.1 = 0 then 2 - 2 * s.2.1 else 2 - s.2.1
section MFRAC
variable {G : GT} {μ : Mem} {M : HV} {σ : St}
theorem fo_loop {i c2 : Int} {s : Sp} (hi : isS i) (hs : RepN μ 204 (16 * i) s) (hok : spOk s) : ∀ (q p : List Fib) (u w : Int) (μ' : Mem), p ++ q = s.2.2.2 → μ' 203 18 = u → μ' 203 19 = w → Low u w (oU (chX s) p) (pA p) → OffU μ μ' →
    E G mX11_findOver (Zq G mX11_findOver (V0 (fun μ' => Low (μ' 203 18) (μ' 203 19) (cT s) (pA s.2.2.2) ∧ OffU μ μ'))) 0 0 50 [.ref 203, vi i, vi c2, vi (p.length : Int)] [] (Hp μ') := by
  have hb := hok.2.2.2.2.2.1
  have j1 := hi.1
  have j2 := hi.2
  intro q
  induction q with
  | nil =>
    intro p u w μ' h1 hu hw hL h4
    have hs' := hs.kept (h4.1 204 (by decide))
    have hp : p.length = s.2.2.2.length := by rw [← h1]; simp
    have hpe : p = s.2.2.2 := by rw [← h1]; simp
    refine E_iload_n dX11_findOver_50 rfl ?_
    refine E_aload_n dX11_findOver_51 rfl ?_
    refine E_iload_n dX11_findOver_52 rfl ?_
    refine E_callVR dX11_findOver_53 lkX11_100 (Hp_get sk_203) (m_fibres hi hs') ?_
    refine E_icmp_ge 116 dX11_findOver_56 (fun h56 => ?_) (fun h56 => ?_)
    · -- 116
      refine E_vret dX11_findOver_116 ?_
      exact ⟨rfl, _, rfl, by rw [hu, hw]; rw [hpe] at hL; exact hL, h4⟩
    · -- 59
      exfalso; omega
  | cons x q ih =>
    intro p u w μ' h1 hu hw hL h4
    have hs' := hs.kept (h4.1 204 (by decide))
    have hp : p.length + 1 + q.length = s.2.2.2.length := by rw [← h1]; simp; omega
    obtain ⟨x1, x2, x3, x4, -⟩ := hok.2.2.2.2.2.2 x (by rw [← h1]; simp)
    have hat : s.2.2.2[p.length]? = some x := by rw [← h1]; simp
    have hpo := pre_ok hok h1
    have b1 := cT_rng hpo
    have b2 := pA_6 hpo
    have b1' : -800000000000 ≤ oU (chX s) p ∧ oU (chX s) p ≤ 800000000000 := b1
    have b3 := hL.le
    have w1 := hL.1
    have b4 : w ≤ 729000000 := by have : pA p ≤ 729000000 := b2.2; omega
    have m1 := Int.mul_le_mul_of_nonneg_left x2 (show 0 ≤ w by omega)
    have m2 := Int.mul_le_mul_of_nonneg_left (show 1 ≤ x.1 by omega) (show 0 ≤ w by omega)
    have m3 := Int.mul_le_mul_of_nonneg_left (show x.1 - 1 ≤ 30 by omega) (show 0 ≤ w by omega)
    have m4 := Int.mul_nonneg (show 0 ≤ w by omega) (show 0 ≤ x.1 - 1 by omega)
    have m5 := Int.mul_le_mul_of_nonneg_right (show u ≤ 800000000000 by omega) (show 0 ≤ x.1 by omega)
    have m6 := Int.mul_le_mul_of_nonneg_right (show -800000000000 ≤ u by omega) (show 0 ≤ x.1 by omega)
    have hW : 1 ≤ pA (p ++ [x]) := (pA_6 (pre_ok (p := p ++ [x]) (q := q) hok (by rw [← h1]; simp))).1
    have hcut := Low.cut (u := u * x.1 - w * (x.1 - 1)) (w := w * x.1) (U := oU (chX s) (p ++ [x])) (W := pA (p ++ [x])) (by omega) hW (by
      rw [oU_snoc (fun y hy => by have := (hok.2.2.2.2.2.2 y (by rw [← h1]; simp [hy])).1; omega) (by omega), pA_snoc]
      exact hL.step (by omega))
    refine E_iload_n dX11_findOver_50 rfl ?_
    refine E_aload_n dX11_findOver_51 rfl ?_
    refine E_iload_n dX11_findOver_52 rfl ?_
    refine E_callVR dX11_findOver_53 lkX11_100 (Hp_get sk_203) (m_fibres hi hs') ?_
    refine E_icmp_ge 116 dX11_findOver_56 (fun h56 => ?_) (fun h56 => ?_)
    · -- 116
      exfalso; omega
    · -- 59
      refine E_aload_n dX11_findOver_59 rfl ?_
      refine E_aload_n dX11_findOver_60 rfl ?_
      refine GX11_183 sk_203 dX11_findOver_61 ?_
      rw [hu]
      refine E_aload_n dX11_findOver_64 rfl ?_
      refine E_iload_n dX11_findOver_65 rfl ?_
      refine E_iload_n dX11_findOver_66 rfl ?_
      refine E_callVR dX11_findOver_67 lkX11_90 (Hp_get sk_203) (m_a hi hs' (by omega) hat) ?_
      refine E_i2l dX11_findOver_70 ?_
      refine E_lmul dX11_findOver_71 ?_
      refine E_aload_n dX11_findOver_72 rfl ?_
      refine GX11_187 sk_203 dX11_findOver_73 ?_
      rw [hw]
      refine E_aload_n dX11_findOver_76 rfl ?_
      refine E_iload_n dX11_findOver_77 rfl ?_
      refine E_iload_n dX11_findOver_78 rfl ?_
      refine E_callVR dX11_findOver_79 lkX11_90 (Hp_get sk_203) (m_a hi hs' (by omega) hat) ?_
      refine E_iconst dX11_findOver_82 ?_
      refine E_isub dX11_findOver_83 ?_
      refine E_i2l dX11_findOver_84 ?_
      refine E_lmul dX11_findOver_85 ?_
      refine E_lsub dX11_findOver_86 ?_
      refine PX11_183 sk_203 dX11_findOver_87 ?_
      refine E_aload_n dX11_findOver_90 rfl ?_
      refine E_dup dX11_findOver_91 ?_
      refine GX11_187 sk_203 dX11_findOver_92 ?_
      rw [up_r, if_neg (by omega), hw]
      refine E_aload_n dX11_findOver_95 rfl ?_
      refine E_iload_n dX11_findOver_96 rfl ?_
      refine E_iload_n dX11_findOver_97 rfl ?_
      refine E_callVR dX11_findOver_98 lkX11_90 (Hp_get sk_203) (m_a hi (hs'.kept (up_ne 204 (by decide))) (by omega) hat) ?_
      refine E_i2l dX11_findOver_101 ?_
      refine E_lmul dX11_findOver_102 ?_
      refine PX11_187 sk_203 dX11_findOver_103 ?_
      refine E_aload_n dX11_findOver_106 rfl ?_
      refine E_callVV dX11_findOver_107 lkX11_190 (Hp_get sk_203) (m_least (u := u * x.1 - w * (x.1 - 1)) (w := w * x.1) (by rw [up_r, if_neg (by omega), up_r, if_pos rfl]) (by rw [up_r, if_pos rfl]) (by omega) (by omega)) ?_
      rintro μ2 ⟨g1, g2, g3⟩
      refine E_iinc dX11_findOver_110 rfl ?_
      refine E_goto 50 dX11_findOver_113 ?_
      have t := ih (p ++ [x]) _ _ μ2 (by rw [← h1]; simp) g1 g2 hcut (((h4.fld (Or.inl rfl)).fld (Or.inr rfl)).tr g3)
      rw [show ((p ++ [x]).length : Int) = (p.length : Int) + 1 by simp] at t
      exact t
theorem m_findOver {i : Int} {s : Sp} (hi : isS i) (hs : RepN μ 204 (16 * i) s) (hok : spOk s) : Ctr G mX11_findOver [.ref 203, vi i] (Hp μ) (V0 (fun μ' => Low (μ' 203 18) (μ' 203 19) (cT s) (pA s.2.2.2) ∧ OffU μ μ')) := by
  refine Ctr.of ?_
  have j1 := hi.1
  have j2 := hi.2
  obtain ⟨o0, o1, o2, o3, o4, o5, o6⟩ := id hok
  have fin : ∀ z : Int, z = chX s → E G mX11_findOver (Zq G mX11_findOver (V0 (fun μ' => Low (μ' 203 18) (μ' 203 19) (cT s) (pA s.2.2.2) ∧ OffU μ μ'))) 0 0 50 [.ref 203, vi i, vi s.2.1, vi 0] [] (Hp (up (up μ 203 18 z) 203 19 1)) := by
    intro z hz
    subst hz
    exact fo_loop (μ := μ) hi hs hok s.2.2.2 [] (chX s) 1 _ rfl (by rw [up_r, if_neg (by omega), up_r, if_pos rfl]) (by rw [up_r, if_pos rfl]) ⟨by omega, by simp [pA], by simp, by simp [oU, pA, kT]⟩ ((OffU.rf.fld (Or.inl rfl)).fld (Or.inr rfl))
  refine E_aload_n dX11_findOver_0 rfl ?_
  refine GX11_7 sk_203 dX11_findOver_1 ?_
  refine E_bipush dX11_findOver_4 ?_
  refine E_iload_n dX11_findOver_6 rfl ?_
  refine E_imul dX11_findOver_7 ?_
  refine E_iconst dX11_findOver_8 ?_
  refine E_iadd dX11_findOver_9 ?_
  refine H_iald sk_204 dX11_findOver_10 ?_
  rw [hs.2.1]
  refine E_istore_n dX11_findOver_11 ?_
  refine E_aload_n dX11_findOver_12 rfl ?_
  refine E_aload_n dX11_findOver_13 rfl ?_
  refine GX11_7 sk_203 dX11_findOver_14 ?_
  refine E_bipush dX11_findOver_17 ?_
  refine E_iload_n dX11_findOver_19 rfl ?_
  refine E_imul dX11_findOver_20 ?_
  refine E_iconst dX11_findOver_21 ?_
  refine E_iadd dX11_findOver_22 ?_
  refine H_iald sk_204 dX11_findOver_23 ?_
  rw [Int.add_zero, hs.1]
  refine E_if_ne 36 dX11_findOver_24 (fun h24 => ?_) (fun h24 => ?_)
  · -- 36
    refine E_iconst dX11_findOver_36 ?_
    refine E_iload_n dX11_findOver_37 rfl ?_
    refine E_isub dX11_findOver_38 ?_
    refine E_i2l dX11_findOver_39 ?_
    refine PX11_183 sk_203 dX11_findOver_40 ?_
    refine E_aload_n dX11_findOver_43 rfl ?_
    refine E_lconst1 dX11_findOver_44 ?_
    refine PX11_187 sk_203 dX11_findOver_45 ?_
    refine E_iconst dX11_findOver_48 ?_
    refine E_istore_n dX11_findOver_49 ?_
    refine fin _ ?_
    unfold chX
    first | rw [if_pos (by omega)] | rw [if_neg (by omega)]
  · -- 27
    refine E_iconst dX11_findOver_27 ?_
    refine E_iconst dX11_findOver_28 ?_
    refine E_iload_n dX11_findOver_29 rfl ?_
    refine E_imul dX11_findOver_30 ?_
    refine E_isub dX11_findOver_31 ?_
    refine E_i2l dX11_findOver_32 ?_
    refine E_goto 40 dX11_findOver_33 ?_
    refine PX11_183 sk_203 dX11_findOver_40 ?_
    refine E_aload_n dX11_findOver_43 rfl ?_
    refine E_lconst1 dX11_findOver_44 ?_
    refine PX11_187 sk_203 dX11_findOver_45 ?_
    refine E_iconst dX11_findOver_48 ?_
    refine E_istore_n dX11_findOver_49 ?_
    refine fin _ ?_
    unfold chX
    first | rw [if_pos (by omega)] | rw [if_neg (by omega)]
theorem NL.of {R : Int × St} {μ' : Mem} (hM : RepM μ' R.2) (ho : ∀ q : Nat, q < 203 → μ' q = μ q) : NL μ R (some (vl R.1)) (Hp μ') := ⟨rfl, _, rfl, hM, ho⟩
theorem OffU.lo {μ' : Mem} (h : OffU μ μ') : ∀ q : Nat, q < 203 → μ' q = μ q := fun q hq => h.1 q (by omega)
theorem m_euler {i w : Int} (hi : -2147483648 ≤ i ∧ i < 2147483648) (hw : -2147483648 ≤ w ∧ w < 2147483648) (hM : RepM μ σ) (hok : stOk σ) : Ctr G mX11_euler [.ref 203, vi i, vi w] (Hp μ) (NL μ (aEuler σ i w, σ)) := by
  refine Ctr.of ?_
  have hsi := m_isSpace (G := G) (M := Hp μ) hi
  have hin := m_in (G := G) (M := Hp μ) (v := w) (lo := 0) (hi := 1) (by omega) (by omega) (by omega)
  by_cases q1 : isS i
  · rw [cif_pos q1] at hsi
    have hn := rn_at q1 hM.1
    have ho := ok_at q1 hok.1
    by_cases q2 : 0 ≤ w ∧ w ≤ 1
    · rw [cif_pos q2] at hin
      rw [show aEuler σ i w = _ from cif_pos ⟨q1, q2⟩]
      by_cases q3 : w = 0
      · subst q3
        rw [show fracS _ _ 0 = _ from cif_pos rfl]
        refine E_iload_n dX11_euler_0 rfl ?_
        refine E_callSR dX11_euler_1 lkX11_147 (hsi) ?_
        refine E_if_eq 17 dX11_euler_4 (fun h4 => ?_) (fun h4 => ?_)
        · -- 17
          first | exact absurd h4 (by decide) | exact absurd h14 (by decide)
        · -- 7
          refine E_iload_n dX11_euler_7 rfl ?_
          refine E_i2l dX11_euler_8 ?_
          refine E_lconst0 dX11_euler_9 ?_
          refine E_lconst1 dX11_euler_10 ?_
          refine E_callSR dX11_euler_11 lkX11_63 (hin) ?_
          refine E_if_ne 21 dX11_euler_14 (fun h14 => ?_) (fun h14 => ?_)
          · -- 21
            refine E_aload_n dX11_euler_21 rfl ?_
            refine E_iload_n dX11_euler_22 rfl ?_
            refine E_callVV dX11_euler_23 lkX11_195 (Hp_get sk_203) (m_findEuler q1 hn ho) ?_
            rintro μ1 ⟨a1, a2⟩
            refine E_iload_n dX11_euler_26 rfl ?_
            refine E_if_ne 37 dX11_euler_27 (fun h27 => ?_) (fun h27 => ?_)
            · -- 37
              exact absurd rfl h27
            · -- 30
              refine E_aload_n dX11_euler_30 rfl ?_
              refine GX11_183 sk_203 dX11_euler_31 ?_
              refine E_goto 41 dX11_euler_34 ?_
              refine E_lret dX11_euler_41 ?_
              exact ⟨by rw [a1.eq.1], _, rfl, hM.off a2.w, a2.lo⟩
          · -- 17
            first | exact absurd h4 (by decide) | exact absurd h14 (by decide)
      · rw [show fracS _ _ w = _ from cif_neg q3]
        refine E_iload_n dX11_euler_0 rfl ?_
        refine E_callSR dX11_euler_1 lkX11_147 (hsi) ?_
        refine E_if_eq 17 dX11_euler_4 (fun h4 => ?_) (fun h4 => ?_)
        · -- 17
          first | exact absurd h4 (by decide) | exact absurd h14 (by decide)
        · -- 7
          refine E_iload_n dX11_euler_7 rfl ?_
          refine E_i2l dX11_euler_8 ?_
          refine E_lconst0 dX11_euler_9 ?_
          refine E_lconst1 dX11_euler_10 ?_
          refine E_callSR dX11_euler_11 lkX11_63 (hin) ?_
          refine E_if_ne 21 dX11_euler_14 (fun h14 => ?_) (fun h14 => ?_)
          · -- 21
            refine E_aload_n dX11_euler_21 rfl ?_
            refine E_iload_n dX11_euler_22 rfl ?_
            refine E_callVV dX11_euler_23 lkX11_195 (Hp_get sk_203) (m_findEuler q1 hn ho) ?_
            rintro μ1 ⟨a1, a2⟩
            refine E_iload_n dX11_euler_26 rfl ?_
            refine E_if_ne 37 dX11_euler_27 (fun h27 => ?_) (fun h27 => ?_)
            · -- 37
              refine E_aload_n dX11_euler_37 rfl ?_
              refine GX11_187 sk_203 dX11_euler_38 ?_
              refine E_lret dX11_euler_41 ?_
              exact ⟨by rw [a1.eq.2], _, rfl, hM.off a2.w, a2.lo⟩
            · -- 30
              exact absurd h27 q3
          · -- 17
            first | exact absurd h4 (by decide) | exact absurd h14 (by decide)
    · rw [cif_neg q2] at hin
      rw [show aEuler σ i w = NOc from cif_neg (fun h => q2 h.2)]
      refine E_iload_n dX11_euler_0 rfl ?_
      refine E_callSR dX11_euler_1 lkX11_147 (hsi) ?_
      refine E_if_eq 17 dX11_euler_4 (fun h4 => ?_) (fun h4 => ?_)
      · -- 17
        refine E_ldc2 dX11_euler_17 coX11_193 ?_
        refine E_lret dX11_euler_20 ?_
        exact ⟨rfl, _, rfl, hM, fun _ _ => rfl⟩
      · -- 7
        refine E_iload_n dX11_euler_7 rfl ?_
        refine E_i2l dX11_euler_8 ?_
        refine E_lconst0 dX11_euler_9 ?_
        refine E_lconst1 dX11_euler_10 ?_
        refine E_callSR dX11_euler_11 lkX11_63 (hin) ?_
        refine E_if_ne 21 dX11_euler_14 (fun h14 => ?_) (fun h14 => ?_)
        · -- 21
          exact absurd rfl h14
        · -- 17
          refine E_ldc2 dX11_euler_17 coX11_193 ?_
          refine E_lret dX11_euler_20 ?_
          exact ⟨rfl, _, rfl, hM, fun _ _ => rfl⟩
  · rw [cif_neg q1] at hsi
    rw [show aEuler σ i w = NOc from cif_neg (fun h => q1 h.1)]
    refine E_iload_n dX11_euler_0 rfl ?_
    refine E_callSR dX11_euler_1 lkX11_147 (hsi) ?_
    refine E_if_eq 17 dX11_euler_4 (fun h4 => ?_) (fun h4 => ?_)
    · -- 17
      refine E_ldc2 dX11_euler_17 coX11_193 ?_
      refine E_lret dX11_euler_20 ?_
      exact ⟨rfl, _, rfl, hM, fun _ _ => rfl⟩
    · -- 7
      exact absurd rfl h4
theorem m_over {i w : Int} (hi : -2147483648 ≤ i ∧ i < 2147483648) (hw : -2147483648 ≤ w ∧ w < 2147483648) (hM : RepM μ σ) (hok : stOk σ) : Ctr G mX11_over [.ref 203, vi i, vi w] (Hp μ) (NL μ (aOver σ i w, σ)) := by
  refine Ctr.of ?_
  have hsi := m_isSpace (G := G) (M := Hp μ) hi
  have hin := m_in (G := G) (M := Hp μ) (v := w) (lo := 0) (hi := 1) (by omega) (by omega) (by omega)
  by_cases q1 : isS i
  · rw [cif_pos q1] at hsi
    have hn := rn_at q1 hM.1
    have ho := ok_at q1 hok.1
    by_cases q2 : 0 ≤ w ∧ w ≤ 1
    · rw [cif_pos q2] at hin
      rw [show aOver σ i w = _ from cif_pos ⟨q1, q2⟩]
      by_cases q3 : w = 0
      · subst q3
        rw [show fracS _ _ 0 = _ from cif_pos rfl]
        refine E_iload_n dX11_over_0 rfl ?_
        refine E_callSR dX11_over_1 lkX11_147 (hsi) ?_
        refine E_if_eq 17 dX11_over_4 (fun h4 => ?_) (fun h4 => ?_)
        · -- 17
          first | exact absurd h4 (by decide) | exact absurd h14 (by decide)
        · -- 7
          refine E_iload_n dX11_over_7 rfl ?_
          refine E_i2l dX11_over_8 ?_
          refine E_lconst0 dX11_over_9 ?_
          refine E_lconst1 dX11_over_10 ?_
          refine E_callSR dX11_over_11 lkX11_63 (hin) ?_
          refine E_if_ne 21 dX11_over_14 (fun h14 => ?_) (fun h14 => ?_)
          · -- 21
            refine E_aload_n dX11_over_21 rfl ?_
            refine E_iload_n dX11_over_22 rfl ?_
            refine E_callVV dX11_over_23 lkX11_199 (Hp_get sk_203) (m_findOver q1 hn ho) ?_
            rintro μ1 ⟨a1, a2⟩
            refine E_iload_n dX11_over_26 rfl ?_
            refine E_if_ne 37 dX11_over_27 (fun h27 => ?_) (fun h27 => ?_)
            · -- 37
              exact absurd rfl h27
            · -- 30
              refine E_aload_n dX11_over_30 rfl ?_
              refine GX11_183 sk_203 dX11_over_31 ?_
              refine E_goto 41 dX11_over_34 ?_
              refine E_lret dX11_over_41 ?_
              exact ⟨by rw [a1.eq.1], _, rfl, hM.off a2.w, a2.lo⟩
          · -- 17
            first | exact absurd h4 (by decide) | exact absurd h14 (by decide)
      · rw [show fracS _ _ w = _ from cif_neg q3]
        refine E_iload_n dX11_over_0 rfl ?_
        refine E_callSR dX11_over_1 lkX11_147 (hsi) ?_
        refine E_if_eq 17 dX11_over_4 (fun h4 => ?_) (fun h4 => ?_)
        · -- 17
          first | exact absurd h4 (by decide) | exact absurd h14 (by decide)
        · -- 7
          refine E_iload_n dX11_over_7 rfl ?_
          refine E_i2l dX11_over_8 ?_
          refine E_lconst0 dX11_over_9 ?_
          refine E_lconst1 dX11_over_10 ?_
          refine E_callSR dX11_over_11 lkX11_63 (hin) ?_
          refine E_if_ne 21 dX11_over_14 (fun h14 => ?_) (fun h14 => ?_)
          · -- 21
            refine E_aload_n dX11_over_21 rfl ?_
            refine E_iload_n dX11_over_22 rfl ?_
            refine E_callVV dX11_over_23 lkX11_199 (Hp_get sk_203) (m_findOver q1 hn ho) ?_
            rintro μ1 ⟨a1, a2⟩
            refine E_iload_n dX11_over_26 rfl ?_
            refine E_if_ne 37 dX11_over_27 (fun h27 => ?_) (fun h27 => ?_)
            · -- 37
              refine E_aload_n dX11_over_37 rfl ?_
              refine GX11_187 sk_203 dX11_over_38 ?_
              refine E_lret dX11_over_41 ?_
              exact ⟨by rw [a1.eq.2], _, rfl, hM.off a2.w, a2.lo⟩
            · -- 30
              exact absurd h27 q3
          · -- 17
            first | exact absurd h4 (by decide) | exact absurd h14 (by decide)
    · rw [cif_neg q2] at hin
      rw [show aOver σ i w = NOc from cif_neg (fun h => q2 h.2)]
      refine E_iload_n dX11_over_0 rfl ?_
      refine E_callSR dX11_over_1 lkX11_147 (hsi) ?_
      refine E_if_eq 17 dX11_over_4 (fun h4 => ?_) (fun h4 => ?_)
      · -- 17
        refine E_ldc2 dX11_over_17 coX11_193 ?_
        refine E_lret dX11_over_20 ?_
        exact ⟨rfl, _, rfl, hM, fun _ _ => rfl⟩
      · -- 7
        refine E_iload_n dX11_over_7 rfl ?_
        refine E_i2l dX11_over_8 ?_
        refine E_lconst0 dX11_over_9 ?_
        refine E_lconst1 dX11_over_10 ?_
        refine E_callSR dX11_over_11 lkX11_63 (hin) ?_
        refine E_if_ne 21 dX11_over_14 (fun h14 => ?_) (fun h14 => ?_)
        · -- 21
          exact absurd rfl h14
        · -- 17
          refine E_ldc2 dX11_over_17 coX11_193 ?_
          refine E_lret dX11_over_20 ?_
          exact ⟨rfl, _, rfl, hM, fun _ _ => rfl⟩
  · rw [cif_neg q1] at hsi
    rw [show aOver σ i w = NOc from cif_neg (fun h => q1 h.1)]
    refine E_iload_n dX11_over_0 rfl ?_
    refine E_callSR dX11_over_1 lkX11_147 (hsi) ?_
    refine E_if_eq 17 dX11_over_4 (fun h4 => ?_) (fun h4 => ?_)
    · -- 17
      refine E_ldc2 dX11_over_17 coX11_193 ?_
      refine E_lret dX11_over_20 ?_
      exact ⟨rfl, _, rfl, hM, fun _ _ => rfl⟩
    · -- 7
      exact absurd rfl h4
theorem Low.zero {u w U W : Int} (h : Low u w U W) : (u = 0 ↔ U = 0) ∧ (0 < u ↔ 0 < U) := by
  obtain ⟨h1, h2, h3, h4⟩ := h
  refine ⟨⟨fun e => ?_, fun e => ?_⟩, fun e => ?_, fun e => ?_⟩
  · rw [e, Int.zero_mul] at h4
    rcases Int.mul_eq_zero.mp h4.symm with h | h
    · exact h
    · omega
  · rw [e, Int.zero_mul] at h4
    rcases Int.mul_eq_zero.mp h4 with h | h
    · exact h
    · omega
  · have := Int.mul_pos e (show 0 < W by omega)
    rw [h4] at this
    exact Int.pos_of_mul_pos_left this (by omega)
  · have := Int.mul_pos e (show 0 < w by omega)
    rw [← h4] at this
    exact Int.pos_of_mul_pos_left this (by omega)
theorem m_isFlat {i : Int} {s : Sp} (hi : isS i) (hs : RepN μ 204 (16 * i) s) (hok : spOk s) : Ctr G mX11_isFlat [.ref 203, vi i] (Hp μ) (V1 (vi (if eT s = 0 then 1 else 0)) (fun μ' => OffU μ μ')) := by
  refine Ctr.of ?_
  have he := eT_rng hok
  refine E_aload_n dX11_isFlat_0 rfl ?_
  refine E_iload_n dX11_isFlat_1 rfl ?_
  refine E_callVV dX11_isFlat_2 lkX11_195 (Hp_get sk_203) (m_findEuler hi hs hok) ?_
  rintro μ1 ⟨a1, a2⟩
  have b1 := a1.le.2
  have b2 := a1.zero.1
  refine E_aload_n dX11_isFlat_5 rfl ?_
  refine GX11_183 sk_203 dX11_isFlat_6 ?_
  refine E_lconst0 dX11_isFlat_9 ?_
  refine E_lcmp_ne 18 dX11_isFlat_10 dX11_isFlat_11 (fun h10 => ?_) (fun h10 => ?_)
  · -- 18
    refine E_iconst dX11_isFlat_18 ?_
    refine E_zret dX11_isFlat_19 ?_ (by first | exact Or.inl rfl | exact Or.inr rfl | omega)
    first | (rw [if_pos (by have := b2.mp (by assumption); omega)]; exact ⟨rfl, _, rfl, a2⟩) | (rw [if_neg (fun e => absurd (b2.mpr (by omega)) (by assumption))]; exact ⟨rfl, _, rfl, a2⟩)
  · -- 14
    refine E_iconst dX11_isFlat_14 ?_
    refine E_goto 19 dX11_isFlat_15 ?_
    refine E_zret dX11_isFlat_19 ?_ (by first | exact Or.inl rfl | exact Or.inr rfl | omega)
    first | (rw [if_pos (by have := b2.mp (by assumption); omega)]; exact ⟨rfl, _, rfl, a2⟩) | (rw [if_neg (fun e => absurd (b2.mpr (by omega)) (by assumption))]; exact ⟨rfl, _, rfl, a2⟩)
theorem m_geometry {i : Int} {s : Sp} (hi : isS i) (hs : RepN μ 204 (16 * i) s) (hok : spOk s) : Ctr G mX11_geometry [.ref 203, vi i] (Hp μ) (V1 (vi (geoS s)) (fun μ' => OffU μ μ')) := by
  refine Ctr.of ?_
  have hc := cT_rng hok
  have fin : ∀ (x : Int) (μ1 : Mem), x = (if eT s = 0 then 0 else 3) → OffU μ μ1 → E G mX11_geometry (Zq G mX11_geometry (V1 (vi (geoS s)) (fun μ' => OffU μ μ'))) 0 0 14 [.ref 203, vi i, vi x] [] (Hp μ1) := by
    intro x μ1 hx a2
    have g1 : 0 < cT s → geoS s = x + 0 := fun h => by unfold geoS; rw [← hx, Int.sign_eq_one_of_pos h]; omega
    have g2 : cT s = 0 → geoS s = x + 1 := fun h => by unfold geoS; rw [← hx, h, Int.sign_zero]; omega
    have g3 : cT s < 0 → geoS s = x + 2 := fun h => by unfold geoS; rw [← hx, Int.sign_eq_neg_one_of_neg h]; omega
    refine E_aload_n dX11_geometry_14 rfl ?_
    refine E_iload_n dX11_geometry_15 rfl ?_
    refine E_callVV dX11_geometry_16 lkX11_199 (Hp_get sk_203) (m_findOver hi (hs.kept (a2.1 204 (by decide))) hok) ?_
    rintro μ2 ⟨b1, b2⟩
    have c1 := b1.le.2
    obtain ⟨c2, c3⟩ := b1.zero
    refine E_iload_n dX11_geometry_19 rfl ?_
    refine E_aload_n dX11_geometry_20 rfl ?_
    refine GX11_183 sk_203 dX11_geometry_21 ?_
    refine E_lconst0 dX11_geometry_24 ?_
    refine E_lcmp_le 33 dX11_geometry_25 dX11_geometry_26 (fun h25 => ?_) (fun h25 => ?_)
    · -- 33
      refine E_aload_n dX11_geometry_33 rfl ?_
      refine GX11_183 sk_203 dX11_geometry_34 ?_
      refine E_lconst0 dX11_geometry_37 ?_
      refine E_lcmp_ne 46 dX11_geometry_38 dX11_geometry_39 (fun h38 => ?_) (fun h38 => ?_)
      · -- 46
        refine E_iconst dX11_geometry_46 ?_
        refine E_iadd dX11_geometry_47 ?_
        refine E_iret dX11_geometry_48 ?_
        first | (rw [g1 (c3.mp (by omega))]; exact ⟨rfl, _, rfl, a2.tr b2⟩) | (rw [g2 (c2.mp (by omega))]; exact ⟨rfl, _, rfl, a2.tr b2⟩) | (rw [g3 (by omega)]; exact ⟨rfl, _, rfl, a2.tr b2⟩)
      · -- 42
        refine E_iconst dX11_geometry_42 ?_
        refine E_goto 47 dX11_geometry_43 ?_
        refine E_iadd dX11_geometry_47 ?_
        refine E_iret dX11_geometry_48 ?_
        first | (rw [g1 (c3.mp (by omega))]; exact ⟨rfl, _, rfl, a2.tr b2⟩) | (rw [g2 (c2.mp (by omega))]; exact ⟨rfl, _, rfl, a2.tr b2⟩) | (rw [g3 (by omega)]; exact ⟨rfl, _, rfl, a2.tr b2⟩)
    · -- 29
      refine E_iconst dX11_geometry_29 ?_
      refine E_goto 47 dX11_geometry_30 ?_
      refine E_iadd dX11_geometry_47 ?_
      refine E_iret dX11_geometry_48 ?_
      first | (rw [g1 (c3.mp (by omega))]; exact ⟨rfl, _, rfl, a2.tr b2⟩) | (rw [g2 (c2.mp (by omega))]; exact ⟨rfl, _, rfl, a2.tr b2⟩) | (rw [g3 (by omega)]; exact ⟨rfl, _, rfl, a2.tr b2⟩)
  by_cases q : eT s = 0
  · have hfl := m_isFlat (G := G) hi hs hok
    rw [if_pos q] at hfl
    refine E_aload_n dX11_geometry_0 rfl ?_
    refine E_iload_n dX11_geometry_1 rfl ?_
    refine E_callVW dX11_geometry_2 lkX11_202 (Hp_get sk_203) (hfl) ?_
    intro μ1 a2
    refine E_if_eq 12 dX11_geometry_5 (fun h5 => ?_) (fun h5 => ?_)
    · -- 12
      exact absurd h5 (by decide)
    · -- 8
      refine E_iconst dX11_geometry_8 ?_
      refine E_goto 13 dX11_geometry_9 ?_
      refine E_istore_n dX11_geometry_13 ?_
      exact fin 0 μ1 (by rw [if_pos q]) a2
  · have hfl := m_isFlat (G := G) hi hs hok
    rw [if_neg q] at hfl
    refine E_aload_n dX11_geometry_0 rfl ?_
    refine E_iload_n dX11_geometry_1 rfl ?_
    refine E_callVW dX11_geometry_2 lkX11_202 (Hp_get sk_203) (hfl) ?_
    intro μ1 a2
    refine E_if_eq 12 dX11_geometry_5 (fun h5 => ?_) (fun h5 => ?_)
    · -- 12
      refine E_iconst dX11_geometry_12 ?_
      refine E_istore_n dX11_geometry_13 ?_
      exact fin 3 μ1 (by rw [if_neg q]) a2
    · -- 8
      exact absurd rfl h5
theorem m_rank {i : Int} {s : Sp} (hi : isS i) (hs : RepN μ 204 (16 * i) s) (hok : spOk s) : Ctr G mX11_rank [.ref 203, vi i] (Hp μ) (V1 (vi (rankC s)) (fun μ' => OffU μ μ')) := by
  refine Ctr.of ?_
  have j1 := hi.1
  have j2 := hi.2
  obtain ⟨o0, o1, o2, o3, o4, o5, o6⟩ := id hok
  have hfl := m_isFlat (G := G) hi hs hok
  by_cases k : s.1 = 1
  · rw [show rankC s = s.2.1 - 1 from if_neg (by omega)]
    refine E_aload_n dX11_rank_0 rfl ?_
    refine GX11_7 sk_203 dX11_rank_1 ?_
    refine E_bipush dX11_rank_4 ?_
    refine E_iload_n dX11_rank_6 rfl ?_
    refine E_imul dX11_rank_7 ?_
    refine E_iconst dX11_rank_8 ?_
    refine E_iadd dX11_rank_9 ?_
    refine H_iald sk_204 dX11_rank_10 ?_
    rw [hs.2.1]
    refine E_istore_n dX11_rank_11 ?_
    refine E_aload_n dX11_rank_12 rfl ?_
    refine GX11_7 sk_203 dX11_rank_13 ?_
    refine E_bipush dX11_rank_16 ?_
    refine E_iload_n dX11_rank_18 rfl ?_
    refine E_imul dX11_rank_19 ?_
    refine E_iconst dX11_rank_20 ?_
    refine E_iadd dX11_rank_21 ?_
    refine H_iald sk_204 dX11_rank_22 ?_
    rw [Int.add_zero, hs.1]
    refine E_iconst dX11_rank_23 ?_
    refine E_icmp_ne 33 dX11_rank_24 (fun h24 => ?_) (fun h24 => ?_)
    · -- 33
      exact absurd k h24
    · -- 27
      refine E_iload_n dX11_rank_27 rfl ?_
      refine E_iconst dX11_rank_28 ?_
      refine E_isub dX11_rank_29 ?_
      refine E_goto 50 dX11_rank_30 ?_
      refine E_iret dX11_rank_50 ?_
      exact ⟨rfl, _, rfl, OffU.rf⟩
  · by_cases q : eT s = 0
    · rw [show rankC s = 2 * s.2.1 + 1 by unfold rankC; rw [if_pos (by omega), if_pos q]]
      rw [if_pos q] at hfl
      refine E_aload_n dX11_rank_0 rfl ?_
      refine GX11_7 sk_203 dX11_rank_1 ?_
      refine E_bipush dX11_rank_4 ?_
      refine E_iload_n dX11_rank_6 rfl ?_
      refine E_imul dX11_rank_7 ?_
      refine E_iconst dX11_rank_8 ?_
      refine E_iadd dX11_rank_9 ?_
      refine H_iald sk_204 dX11_rank_10 ?_
      rw [hs.2.1]
      refine E_istore_n dX11_rank_11 ?_
      refine E_aload_n dX11_rank_12 rfl ?_
      refine GX11_7 sk_203 dX11_rank_13 ?_
      refine E_bipush dX11_rank_16 ?_
      refine E_iload_n dX11_rank_18 rfl ?_
      refine E_imul dX11_rank_19 ?_
      refine E_iconst dX11_rank_20 ?_
      refine E_iadd dX11_rank_21 ?_
      refine H_iald sk_204 dX11_rank_22 ?_
      rw [Int.add_zero, hs.1]
      refine E_iconst dX11_rank_23 ?_
      refine E_icmp_ne 33 dX11_rank_24 (fun h24 => ?_) (fun h24 => ?_)
      · -- 33
        refine E_iconst dX11_rank_33 ?_
        refine E_iload_n dX11_rank_34 rfl ?_
        refine E_imul dX11_rank_35 ?_
        refine E_aload_n dX11_rank_36 rfl ?_
        refine E_iload_n dX11_rank_37 rfl ?_
        refine E_callVW dX11_rank_38 lkX11_202 (Hp_get sk_203) (hfl) ?_
        intro μ1 a2
        refine E_if_eq 48 dX11_rank_41 (fun h41 => ?_) (fun h41 => ?_)
        · -- 48
          exact absurd h41 (by decide)
        · -- 44
          refine E_iconst dX11_rank_44 ?_
          refine E_goto 49 dX11_rank_45 ?_
          refine E_iadd dX11_rank_49 ?_
          refine E_iret dX11_rank_50 ?_
          exact ⟨rfl, _, rfl, a2⟩
      · -- 27
        exact absurd h24 k
    · rw [show rankC s = 2 * s.2.1 + 0 by unfold rankC; rw [if_pos (by omega), if_neg q]]
      rw [if_neg q] at hfl
      refine E_aload_n dX11_rank_0 rfl ?_
      refine GX11_7 sk_203 dX11_rank_1 ?_
      refine E_bipush dX11_rank_4 ?_
      refine E_iload_n dX11_rank_6 rfl ?_
      refine E_imul dX11_rank_7 ?_
      refine E_iconst dX11_rank_8 ?_
      refine E_iadd dX11_rank_9 ?_
      refine H_iald sk_204 dX11_rank_10 ?_
      rw [hs.2.1]
      refine E_istore_n dX11_rank_11 ?_
      refine E_aload_n dX11_rank_12 rfl ?_
      refine GX11_7 sk_203 dX11_rank_13 ?_
      refine E_bipush dX11_rank_16 ?_
      refine E_iload_n dX11_rank_18 rfl ?_
      refine E_imul dX11_rank_19 ?_
      refine E_iconst dX11_rank_20 ?_
      refine E_iadd dX11_rank_21 ?_
      refine H_iald sk_204 dX11_rank_22 ?_
      rw [Int.add_zero (16 * i), hs.1]
      refine E_iconst dX11_rank_23 ?_
      refine E_icmp_ne 33 dX11_rank_24 (fun h24 => ?_) (fun h24 => ?_)
      · -- 33
        refine E_iconst dX11_rank_33 ?_
        refine E_iload_n dX11_rank_34 rfl ?_
        refine E_imul dX11_rank_35 ?_
        refine E_aload_n dX11_rank_36 rfl ?_
        refine E_iload_n dX11_rank_37 rfl ?_
        refine E_callVW dX11_rank_38 lkX11_202 (Hp_get sk_203) (hfl) ?_
        intro μ1 a2
        refine E_if_eq 48 dX11_rank_41 (fun h41 => ?_) (fun h41 => ?_)
        · -- 48
          refine E_iconst dX11_rank_48 ?_
          refine E_iadd dX11_rank_49 ?_
          refine E_iret dX11_rank_50 ?_
          exact ⟨rfl, _, rfl, a2⟩
        · -- 44
          exact absurd rfl h41
      · -- 27
        exact absurd h24 k
end MFRAC
