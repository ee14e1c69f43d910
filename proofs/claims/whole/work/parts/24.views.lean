/-! FibredSpaces: the calls that count -/
theorem okL_sweep (p : List Int) : ∀ (t d : List Int) (c : Int), okL (p ++ c :: (d ++ t)) → okL (p ++ (sweep c t).1 :: (d ++ (sweep c t).2))
  | [], d, c, h => h
  | y :: t, d, c, h => by
    have h1 := okL_step h
    have h2 := okL_sweep p t (d ++ [y * (c / (Int.gcd c y : Int))]) (Int.gcd c y) (by simpa using h1)
    simpa [sweep] using h2
theorem okL_chainN : ∀ (n : Nat) (l p : List Int), l.length = n → okL (p ++ l) → okL (p ++ chainN n l)
  | 0, l, p, h, h1 => by
    have : l = [] := List.length_eq_zero_iff.mp h
    subst this; exact h1
  | n + 1, [], p, h, _ => by simp at h
  | n + 1, c :: t, p, h, h1 => by
    have h2 := okL_sweep p t [] c (by simpa using h1)
    have h3 := okL_chainN n (sweep c t).2 (p ++ [(sweep c t).1]) (by rw [sweep_len]; simpa using h) (by simpa using h2)
    simpa [chainN] using h3
theorem okL_chain {s : Sp} (hok : spOk s) : okL (chain (s.2.2.2.map Prod.fst)) := okL_chainN _ _ [] rfl (okL_of hok)
theorem mem_add1 {T : List Int} {x z : Int} (h : z ∈ add1 T x) : z ∈ T ∨ (z = x ∧ 1 < x) := by
  unfold add1 at h
  split at h
  · rcases List.mem_append.mp h with h | h
    · exact Or.inl h
    · exact Or.inr ⟨List.mem_singleton.mp h, by omega⟩
  · exact Or.inl h
theorem mem_fold1 : ∀ {l T : List Int} {z : Int}, z ∈ l.foldl add1 T → z ∈ T ∨ (z ∈ l ∧ 1 < z)
  | [], T, z, h => Or.inl h
  | x :: t, T, z, h => by
    rcases mem_fold1 (l := t) h with h | ⟨h, h2⟩
    · rcases mem_add1 h with h | ⟨rfl, h2⟩
      · exact Or.inl h
      · exact Or.inr ⟨List.mem_cons_self, h2⟩
    · exact Or.inr ⟨List.mem_cons_of_mem _ h, h2⟩
theorem torC_rng {s : Sp} (hok : spOk s) : ∀ x ∈ torC s, 2 ≤ x ∧ x ≤ 4000000000000 := by
  intro x hx
  have hC := okL_chain hok
  have ke := eT_rng hok
  have kp2 := prI_take hC (s.2.2.2.length - 2)
  have kp1 := prI_take hC (s.2.2.2.length - 1)
  have kp0 := prI_take hC (chain (s.2.2.2.map Prod.fst)).length
  rw [List.take_length] at kp0
  have kf : ∀ z : Int, z ∈ ((chain (s.2.2.2.map Prod.fst)).take (s.2.2.2.length - 2)).foldl add1 [] → 2 ≤ z ∧ z ≤ 4000000000000 := by
    intro z hz
    rcases mem_fold1 hz with h | ⟨h, h2⟩
    · simp at h
    · have := hC.le (List.mem_of_mem_take h); omega
  unfold torC at hx
  simp only at hx
  have kgc : 1 ≤ (Int.gcd (eT s).natAbs (2 * prI ((chain (s.2.2.2.map Prod.fst)).take (s.2.2.2.length - 1))) : Int) ∧ (Int.gcd (eT s).natAbs (2 * prI ((chain (s.2.2.2.map Prod.fst)).take (s.2.2.2.length - 1))) : Int) ≤ 2 * 729000000 := by
    have q1 := Int.gcd_pos_of_ne_zero_right ((eT s).natAbs : Int) (b := 2 * prI ((chain (s.2.2.2.map Prod.fst)).take (s.2.2.2.length - 1))) (by omega)
    have q2 := Int.gcd_le_right ((eT s).natAbs : Int) (b := 2 * prI ((chain (s.2.2.2.map Prod.fst)).take (s.2.2.2.length - 1))) (by omega)
    omega
  split at hx
  · rcases mem_add1 hx with h | ⟨rfl, h2⟩
    · exact kf x h
    · exact ⟨by omega, Int.le_trans (Int.ediv_le_self _ (by omega)) (by omega)⟩
  · rcases mem_add1 hx with h | ⟨rfl, h2⟩
    · rcases mem_add1 h with h | ⟨rfl, h2⟩
      · exact kf x h
      · exact ⟨by omega, Int.le_trans (Int.ediv_le_self _ (by omega)) (by omega)⟩
    · exact ⟨by omega, Int.le_trans (Int.ediv_le_self _ (by omega)) (by omega)⟩
theorem torC_len {s : Sp} (hok : spOk s) : (torC s).length ≤ 8 := by
  have h6 := hok.2.2.2.2.2.1
  have h1 := fold_add_len ((chain (s.2.2.2.map Prod.fst)).take (s.2.2.2.length - 2)) []
  rw [List.length_take, List.length_nil] at h1
  unfold torC
  simp only
  split
  · have := add1_len (((chain (s.2.2.2.map Prod.fst)).take (s.2.2.2.length - 2)).foldl add1 []) (((eT s).natAbs : Int) / prI ((chain (s.2.2.2.map Prod.fst)).take (s.2.2.2.length - 2)))
    omega
  · refine Nat.le_trans (add1_len _ _) (Nat.le_trans (Nat.succ_le_succ (add1_len _ _)) (by omega))
theorem rankC_rng {s : Sp} (hok : spOk s) : 0 ≤ rankC s ∧ rankC s ≤ 9 := by
  have h1 := hok.1
  have h2 := hok.2.1
  have h3 := hok.2.2.1
  unfold rankC
  split
  · split <;> omega
  · omega
theorem torC_r4 {s : Sp} (hok : spOk s) : ∀ x ∈ torC s, -4000000000000000000 ≤ x ∧ x ≤ 4000000000000000000 := fun x hx => by have := torC_rng hok x hx; omega
section VIEWS
variable {G : GT} {μ : Mem} {M : HV} {σ : St}
theorem c_space {i w : Int} (hi : -2147483648 ≤ i ∧ i < 2147483648) (hw : -2147483648 ≤ w ∧ w < 2147483648) (hC : RepC μ σ) (hok : stOk σ) : Ctr G mX10_space [.ref 0, vi i, vi w] (Hp μ) (CL μ (aSpace σ i w, σ)) := by
  refine Ctr.of ?_
  have hsi := c_isSpace (G := G) (M := Hp μ) hi
  by_cases q1 : isS i
  · rw [cif_pos q1] at hsi
    rw [show aSpace σ i w = _ from cif_pos q1]
    have hf := isSp_sh q1
    have j1 := q1.1
    have j2 := q1.2
    have l2 := at_lt q1
    have hs := rep_at q1 hC.1
    have ho := ok_at q1 hok.1
    have he := eT_rng ho
    have hc := cT_rng ho
    have hr := rankC_rng ho
    have hl := torC_len ho
    obtain ⟨s0, s1, s2, s3, -⟩ := id hs
    obtain ⟨o0, o1, o2, o3, o4, o5, -⟩ := id ho
    by_cases w0 : w = 0
    · subst w0
      rw [show spaceS (σ.1 i.toNat) 0 = _ from cif_pos rfl]
      refine E_iload_n dX10_space_0 rfl ?_
      refine E_callSR dX10_space_1 lkX10_92 (hsi) ?_
      refine E_if_ne 11 dX10_space_4 (fun h4 => ?_) (fun h4 => ?_)
      · -- 11
        refine E_aload_n dX10_space_11 rfl ?_
        refine GX10_10 sk_0 dX10_space_12 ?_
        refine GX10_104 sk_1 dX10_space_15 ?_
        refine E_iload_n dX10_space_18 rfl ?_
        refine H_aald4 sk_2 dX10_space_19 (sp_at q1) ?_
        refine E_astore_n dX10_space_20 ?_
        refine E_iload_n dX10_space_21 rfl ?_
        refine E_tin 64 dX10_space_22 (by omega) (by omega) (by omega) rfl rfl ?_
        refine E_aload_n dX10_space_64 rfl ?_
        refine GX10_154 hf.1 dX10_space_65 ?_
        rw [s0]
        refine E_i2l dX10_space_68 ?_
        refine E_lret dX10_space_69 ?_
        exact ⟨rfl, _, rfl, hC, fun _ _ => rfl⟩
      · -- 7
        exact absurd h4 (by decide)
    by_cases w1 : w = 1
    · subst w1
      rw [show spaceS (σ.1 i.toNat) 1 = _ from (cif_neg w0).trans (cif_pos rfl)]
      refine E_iload_n dX10_space_0 rfl ?_
      refine E_callSR dX10_space_1 lkX10_92 (hsi) ?_
      refine E_if_ne 11 dX10_space_4 (fun h4 => ?_) (fun h4 => ?_)
      · -- 11
        refine E_aload_n dX10_space_11 rfl ?_
        refine GX10_10 sk_0 dX10_space_12 ?_
        refine GX10_104 sk_1 dX10_space_15 ?_
        refine E_iload_n dX10_space_18 rfl ?_
        refine H_aald4 sk_2 dX10_space_19 (sp_at q1) ?_
        refine E_astore_n dX10_space_20 ?_
        refine E_iload_n dX10_space_21 rfl ?_
        refine E_tin 70 dX10_space_22 (by omega) (by omega) (by omega) rfl rfl ?_
        refine E_aload_n dX10_space_70 rfl ?_
        refine GX10_151 hf.1 dX10_space_71 ?_
        rw [s1]
        refine E_i2l dX10_space_74 ?_
        refine E_lret dX10_space_75 ?_
        exact ⟨rfl, _, rfl, hC, fun _ _ => rfl⟩
      · -- 7
        exact absurd h4 (by decide)
    by_cases w2 : w = 2
    · subst w2
      rw [show spaceS (σ.1 i.toNat) 2 = _ from (cif_neg w0).trans ((cif_neg w1).trans (cif_pos rfl))]
      refine E_iload_n dX10_space_0 rfl ?_
      refine E_callSR dX10_space_1 lkX10_92 (hsi) ?_
      refine E_if_ne 11 dX10_space_4 (fun h4 => ?_) (fun h4 => ?_)
      · -- 11
        refine E_aload_n dX10_space_11 rfl ?_
        refine GX10_10 sk_0 dX10_space_12 ?_
        refine GX10_104 sk_1 dX10_space_15 ?_
        refine E_iload_n dX10_space_18 rfl ?_
        refine H_aald4 sk_2 dX10_space_19 (sp_at q1) ?_
        refine E_astore_n dX10_space_20 ?_
        refine E_iload_n dX10_space_21 rfl ?_
        refine E_tin 76 dX10_space_22 (by omega) (by omega) (by omega) rfl rfl ?_
        refine E_aload_n dX10_space_76 rfl ?_
        refine GX10_169 hf.1 dX10_space_77 ?_
        rw [s2]
        refine E_i2l dX10_space_80 ?_
        refine E_lret dX10_space_81 ?_
        exact ⟨rfl, _, rfl, hC, fun _ _ => rfl⟩
      · -- 7
        exact absurd h4 (by decide)
    by_cases w3 : w = 3
    · subst w3
      rw [show spaceS (σ.1 i.toNat) 3 = _ from (cif_neg w0).trans ((cif_neg w1).trans ((cif_neg w2).trans (cif_pos rfl)))]
      refine E_iload_n dX10_space_0 rfl ?_
      refine E_callSR dX10_space_1 lkX10_92 (hsi) ?_
      refine E_if_ne 11 dX10_space_4 (fun h4 => ?_) (fun h4 => ?_)
      · -- 11
        refine E_aload_n dX10_space_11 rfl ?_
        refine GX10_10 sk_0 dX10_space_12 ?_
        refine GX10_104 sk_1 dX10_space_15 ?_
        refine E_iload_n dX10_space_18 rfl ?_
        refine H_aald4 sk_2 dX10_space_19 (sp_at q1) ?_
        refine E_astore_n dX10_space_20 ?_
        refine E_iload_n dX10_space_21 rfl ?_
        refine E_tin 82 dX10_space_22 (by omega) (by omega) (by omega) rfl rfl ?_
        refine E_aload_n dX10_space_82 rfl ?_
        refine GX10_120 hf.1 dX10_space_83 ?_
        rw [s3]
        refine E_i2l dX10_space_86 ?_
        refine E_lret dX10_space_87 ?_
        exact ⟨rfl, _, rfl, hC, fun _ _ => rfl⟩
      · -- 7
        exact absurd h4 (by decide)
    by_cases w4 : w = 4
    · subst w4
      rw [show spaceS (σ.1 i.toNat) 4 = _ from (cif_neg w0).trans ((cif_neg w1).trans ((cif_neg w2).trans ((cif_neg w3).trans (cif_pos rfl))))]
      refine E_iload_n dX10_space_0 rfl ?_
      refine E_callSR dX10_space_1 lkX10_92 (hsi) ?_
      refine E_if_ne 11 dX10_space_4 (fun h4 => ?_) (fun h4 => ?_)
      · -- 11
        refine E_aload_n dX10_space_11 rfl ?_
        refine GX10_10 sk_0 dX10_space_12 ?_
        refine GX10_104 sk_1 dX10_space_15 ?_
        refine E_iload_n dX10_space_18 rfl ?_
        refine H_aald4 sk_2 dX10_space_19 (sp_at q1) ?_
        refine E_astore_n dX10_space_20 ?_
        refine E_iload_n dX10_space_21 rfl ?_
        refine E_tin 88 dX10_space_22 (by omega) (by omega) (by omega) rfl rfl ?_
        refine E_aload_n dX10_space_88 rfl ?_
        refine GX10_55 sk_0 dX10_space_89 ?_
        refine E_aload_n dX10_space_92 rfl ?_
        refine E_callVV dX10_space_93 lkX10_172 (Hp_get sk_153) (c_study hf (by omega) hs ho) ?_
        rintro μ1 ⟨a1, a2, a3⟩
        refine E_aload_n dX10_space_96 rfl ?_
        refine GX10_55 sk_0 dX10_space_97 ?_
        refine GX10_175 sk_153 dX10_space_100 ?_
        rw [a2]
        refine E_i2l dX10_space_103 ?_
        refine E_lret dX10_space_104 ?_
        exact ⟨rfl, _, rfl, hC.off a3 (by omega), fun q hq => a3 q (by omega)⟩
      · -- 7
        exact absurd h4 (by decide)
    by_cases w5 : w = 5
    · subst w5
      rw [show spaceS (σ.1 i.toNat) 5 = _ from (cif_neg w0).trans ((cif_neg w1).trans ((cif_neg w2).trans ((cif_neg w3).trans ((cif_neg w4).trans (cif_pos rfl)))))]
      refine E_iload_n dX10_space_0 rfl ?_
      refine E_callSR dX10_space_1 lkX10_92 (hsi) ?_
      refine E_if_ne 11 dX10_space_4 (fun h4 => ?_) (fun h4 => ?_)
      · -- 11
        refine E_aload_n dX10_space_11 rfl ?_
        refine GX10_10 sk_0 dX10_space_12 ?_
        refine GX10_104 sk_1 dX10_space_15 ?_
        refine E_iload_n dX10_space_18 rfl ?_
        refine H_aald4 sk_2 dX10_space_19 (sp_at q1) ?_
        refine E_astore_n dX10_space_20 ?_
        refine E_iload_n dX10_space_21 rfl ?_
        refine E_tin 105 dX10_space_22 (by omega) (by omega) (by omega) rfl rfl ?_
        refine E_aload_n dX10_space_105 rfl ?_
        refine GX10_55 sk_0 dX10_space_106 ?_
        refine E_aload_n dX10_space_109 rfl ?_
        refine E_callVV dX10_space_110 lkX10_172 (Hp_get sk_153) (c_study hf (by omega) hs ho) ?_
        rintro μ1 ⟨a1, a2, a3⟩
        refine E_aload_n dX10_space_113 rfl ?_
        refine GX10_55 sk_0 dX10_space_114 ?_
        refine GX10_178 sk_153 dX10_space_117 ?_
        rw [a1.1]
        refine E_i2l dX10_space_120 ?_
        refine E_lret dX10_space_121 ?_
        exact ⟨rfl, _, rfl, hC.off a3 (by omega), fun q hq => a3 q (by omega)⟩
      · -- 7
        exact absurd h4 (by decide)
    by_cases w6 : w = 6
    · subst w6
      rw [show spaceS (σ.1 i.toNat) 6 = _ from (cif_neg w0).trans ((cif_neg w1).trans ((cif_neg w2).trans ((cif_neg w3).trans ((cif_neg w4).trans ((cif_neg w5).trans (cif_pos rfl))))))]
      have hg : -10 ≤ geoS (σ.1 i.toNat) ∧ geoS (σ.1 i.toNat) ≤ 10 := by
        have hsg : -1 ≤ (cT (σ.1 i.toNat)).sign ∧ (cT (σ.1 i.toNat)).sign ≤ 1 := by rcases Int.sign_trichotomy (cT (σ.1 i.toNat)) with h | h | h <;> omega
        unfold geoS; split <;> omega
      refine E_iload_n dX10_space_0 rfl ?_
      refine E_callSR dX10_space_1 lkX10_92 (hsi) ?_
      refine E_if_ne 11 dX10_space_4 (fun h4 => ?_) (fun h4 => ?_)
      · -- 11
        refine E_aload_n dX10_space_11 rfl ?_
        refine GX10_10 sk_0 dX10_space_12 ?_
        refine GX10_104 sk_1 dX10_space_15 ?_
        refine E_iload_n dX10_space_18 rfl ?_
        refine H_aald4 sk_2 dX10_space_19 (sp_at q1) ?_
        refine E_astore_n dX10_space_20 ?_
        refine E_iload_n dX10_space_21 rfl ?_
        refine E_tin 122 dX10_space_22 (by omega) (by omega) (by omega) rfl rfl ?_
        refine E_aload_n dX10_space_122 rfl ?_
        refine E_callVR dX10_space_123 lkX10_179 (Hp_get hf.1) (c_geometry hf hs ho (by omega) (by omega)) ?_
        change E G mX10_space _ 0 0 126 _ [vi (geoS (σ.1 i.toNat))] _
        refine E_i2l dX10_space_126 ?_
        refine E_lret dX10_space_127 ?_
        exact ⟨rfl, _, rfl, hC, fun _ _ => rfl⟩
      · -- 7
        exact absurd h4 (by decide)
    rw [show spaceS (σ.1 i.toNat) w = NOc from (cif_neg w0).trans ((cif_neg w1).trans ((cif_neg w2).trans ((cif_neg w3).trans ((cif_neg w4).trans ((cif_neg w5).trans (cif_neg w6))))))]
    refine E_iload_n dX10_space_0 rfl ?_
    refine E_callSR dX10_space_1 lkX10_92 (hsi) ?_
    refine E_if_ne 11 dX10_space_4 (fun h4 => ?_) (fun h4 => ?_)
    · -- 11
      refine E_aload_n dX10_space_11 rfl ?_
      refine GX10_10 sk_0 dX10_space_12 ?_
      refine GX10_104 sk_1 dX10_space_15 ?_
      refine E_iload_n dX10_space_18 rfl ?_
      refine H_aald4 sk_2 dX10_space_19 (sp_at q1) ?_
      refine E_astore_n dX10_space_20 ?_
      refine E_iload_n dX10_space_21 rfl ?_
      refine E_tout 128 dX10_space_22 (by omega) (by omega) rfl ?_
      refine E_ldc2 dX10_space_128 coX10_167 ?_
      refine E_lret dX10_space_131 ?_
      exact ⟨rfl, _, rfl, hC, fun _ _ => rfl⟩
    · -- 7
      exact absurd h4 (by decide)
  · rw [cif_neg q1] at hsi
    rw [show aSpace σ i w = NOc from cif_neg q1]
    refine E_iload_n dX10_space_0 rfl ?_
    refine E_callSR dX10_space_1 lkX10_92 (hsi) ?_
    refine E_if_ne 11 dX10_space_4 (fun h4 => ?_) (fun h4 => ?_)
    · -- 11
      exact absurd rfl h4
    · -- 7
      refine E_ldc2 dX10_space_7 coX10_167 ?_
      refine E_lret dX10_space_10 ?_
      exact ⟨rfl, _, rfl, hC, fun _ _ => rfl⟩
theorem c_euler {i w : Int} (hi : -2147483648 ≤ i ∧ i < 2147483648) (hw : -2147483648 ≤ w ∧ w < 2147483648) (hC : RepC μ σ) (hok : stOk σ) : Ctr G mX10_euler [.ref 0, vi i, vi w] (Hp μ) (CL μ (aEuler σ i w, σ)) := by
  refine Ctr.of ?_
  have hsi := c_isSpace (G := G) (M := Hp μ) hi
  by_cases q1 : isS i
  · rw [cif_pos q1] at hsi
    have hf := isSp_sh q1
    have j1 := q1.1
    have j2 := q1.2
    have hs := rep_at q1 hC.1
    have ho := ok_at q1 hok.1
    have he := eT_rng ho
    have hp := pA_6 ho
    by_cases q2 : 0 ≤ w ∧ w ≤ 1
    · rw [show aEuler σ i w = _ from cif_pos ⟨q1, q2⟩]
      have ha : Off 156 1 μ (up (up μ 156 0 (-(eT (σ.1 i.toNat)) / (Int.gcd (-(eT (σ.1 i.toNat))) (pA (σ.1 i.toNat).2.2.2) : Int))) 156 1 (pA (σ.1 i.toNat).2.2.2 / (Int.gcd (-(eT (σ.1 i.toNat))) (pA (σ.1 i.toNat).2.2.2) : Int))) := (Off.rf.up (by omega) (by omega)).up (by omega) (by omega)
      by_cases q3 : w = 0
      · subst q3
        rw [show fracS _ _ 0 = _ from cif_pos rfl]
        refine E_iload_n dX10_euler_0 rfl ?_
        refine E_callSR dX10_euler_1 lkX10_92 (hsi) ?_
        refine E_if_eq 16 dX10_euler_4 (fun h4 => ?_) (fun h4 => ?_)
        · -- 16
          first | exact absurd h4 (by decide) | (exfalso; omega)
        · -- 7
          refine E_iload_n dX10_euler_7 rfl ?_
          refine E_if_lt 16 dX10_euler_8 (fun h8 => ?_) (fun h8 => ?_)
          · -- 16
            first | exact absurd h4 (by decide) | (exfalso; omega)
          · -- 11
            refine E_iload_n dX10_euler_11 rfl ?_
            refine E_iconst dX10_euler_12 ?_
            refine E_icmp_le 20 dX10_euler_13 (fun h13 => ?_) (fun h13 => ?_)
            · -- 20
              refine E_aload_n dX10_euler_20 rfl ?_
              refine GX10_10 sk_0 dX10_euler_21 ?_
              refine GX10_104 sk_1 dX10_euler_24 ?_
              refine E_iload_n dX10_euler_27 rfl ?_
              refine H_aald4 sk_2 dX10_euler_28 (sp_at q1) ?_
              refine E_astore_n dX10_euler_29 ?_
              refine E_aload_n dX10_euler_30 rfl ?_
              refine GX10_62 sk_0 dX10_euler_31 ?_
              refine E_aload_n dX10_euler_34 rfl ?_
              refine E_callVR dX10_euler_35 lkX10_190 (Hp_get hf.1) (c_eulerTop hf hs ho) ?_
              refine E_lneg dX10_euler_38 ?_
              refine E_aload_n dX10_euler_39 rfl ?_
              refine E_callVR dX10_euler_40 lkX10_194 (Hp_get hf.1) (c_allA hf hs ho) ?_
              refine E_callVU dX10_euler_43 lkX10_197 (Hp_get sk_156) (c_reduce (x := -(eT (σ.1 i.toNat))) (z := pA (σ.1 i.toNat).2.2.2) (by omega) (by omega)) ?_
              refine E_iload_n dX10_euler_46 rfl ?_
              refine E_if_ne 60 dX10_euler_47 (fun h47 => ?_) (fun h47 => ?_)
              · -- 60
                exact absurd rfl h47
              · -- 50
                refine E_aload_n dX10_euler_50 rfl ?_
                refine GX10_62 sk_0 dX10_euler_51 ?_
                refine GX10_201 sk_156 dX10_euler_54 ?_
                rw [up_r, if_neg (by decide), up_r, if_pos rfl]
                refine E_goto 67 dX10_euler_57 ?_
                refine E_lret dX10_euler_67 ?_
                exact ⟨rfl, _, rfl, hC.off ha (by omega), fun q hq => ha q (by omega)⟩
            · -- 16
              first | exact absurd h4 (by decide) | (exfalso; omega)
      · rw [show fracS _ _ w = _ from cif_neg q3]
        refine E_iload_n dX10_euler_0 rfl ?_
        refine E_callSR dX10_euler_1 lkX10_92 (hsi) ?_
        refine E_if_eq 16 dX10_euler_4 (fun h4 => ?_) (fun h4 => ?_)
        · -- 16
          first | exact absurd h4 (by decide) | (exfalso; omega)
        · -- 7
          refine E_iload_n dX10_euler_7 rfl ?_
          refine E_if_lt 16 dX10_euler_8 (fun h8 => ?_) (fun h8 => ?_)
          · -- 16
            first | exact absurd h4 (by decide) | (exfalso; omega)
          · -- 11
            refine E_iload_n dX10_euler_11 rfl ?_
            refine E_iconst dX10_euler_12 ?_
            refine E_icmp_le 20 dX10_euler_13 (fun h13 => ?_) (fun h13 => ?_)
            · -- 20
              refine E_aload_n dX10_euler_20 rfl ?_
              refine GX10_10 sk_0 dX10_euler_21 ?_
              refine GX10_104 sk_1 dX10_euler_24 ?_
              refine E_iload_n dX10_euler_27 rfl ?_
              refine H_aald4 sk_2 dX10_euler_28 (sp_at q1) ?_
              refine E_astore_n dX10_euler_29 ?_
              refine E_aload_n dX10_euler_30 rfl ?_
              refine GX10_62 sk_0 dX10_euler_31 ?_
              refine E_aload_n dX10_euler_34 rfl ?_
              refine E_callVR dX10_euler_35 lkX10_190 (Hp_get hf.1) (c_eulerTop hf hs ho) ?_
              refine E_lneg dX10_euler_38 ?_
              refine E_aload_n dX10_euler_39 rfl ?_
              refine E_callVR dX10_euler_40 lkX10_194 (Hp_get hf.1) (c_allA hf hs ho) ?_
              refine E_callVU dX10_euler_43 lkX10_197 (Hp_get sk_156) (c_reduce (x := -(eT (σ.1 i.toNat))) (z := pA (σ.1 i.toNat).2.2.2) (by omega) (by omega)) ?_
              refine E_iload_n dX10_euler_46 rfl ?_
              refine E_if_ne 60 dX10_euler_47 (fun h47 => ?_) (fun h47 => ?_)
              · -- 60
                refine E_aload_n dX10_euler_60 rfl ?_
                refine GX10_62 sk_0 dX10_euler_61 ?_
                refine GX10_205 sk_156 dX10_euler_64 ?_
                rw [up_r, if_pos rfl]
                refine E_lret dX10_euler_67 ?_
                exact ⟨rfl, _, rfl, hC.off ha (by omega), fun q hq => ha q (by omega)⟩
              · -- 50
                exact absurd h47 q3
            · -- 16
              first | exact absurd h4 (by decide) | (exfalso; omega)
    · rw [show aEuler σ i w = NOc from cif_neg (fun h => q2 h.2)]
      refine E_iload_n dX10_euler_0 rfl ?_
      refine E_callSR dX10_euler_1 lkX10_92 (hsi) ?_
      refine E_if_eq 16 dX10_euler_4 (fun h4 => ?_) (fun h4 => ?_)
      · -- 16
        refine E_ldc2 dX10_euler_16 coX10_167 ?_
        refine E_lret dX10_euler_19 ?_
        exact ⟨rfl, _, rfl, hC, fun _ _ => rfl⟩
      · -- 7
        refine E_iload_n dX10_euler_7 rfl ?_
        refine E_if_lt 16 dX10_euler_8 (fun h8 => ?_) (fun h8 => ?_)
        · -- 16
          refine E_ldc2 dX10_euler_16 coX10_167 ?_
          refine E_lret dX10_euler_19 ?_
          exact ⟨rfl, _, rfl, hC, fun _ _ => rfl⟩
        · -- 11
          refine E_iload_n dX10_euler_11 rfl ?_
          refine E_iconst dX10_euler_12 ?_
          refine E_icmp_le 20 dX10_euler_13 (fun h13 => ?_) (fun h13 => ?_)
          · -- 20
            exfalso; omega
          · -- 16
            refine E_ldc2 dX10_euler_16 coX10_167 ?_
            refine E_lret dX10_euler_19 ?_
            exact ⟨rfl, _, rfl, hC, fun _ _ => rfl⟩
  · rw [cif_neg q1] at hsi
    rw [show aEuler σ i w = NOc from cif_neg (fun h => q1 h.1)]
    refine E_iload_n dX10_euler_0 rfl ?_
    refine E_callSR dX10_euler_1 lkX10_92 (hsi) ?_
    refine E_if_eq 16 dX10_euler_4 (fun h4 => ?_) (fun h4 => ?_)
    · -- 16
      refine E_ldc2 dX10_euler_16 coX10_167 ?_
      refine E_lret dX10_euler_19 ?_
      exact ⟨rfl, _, rfl, hC, fun _ _ => rfl⟩
    · -- 7
      exact absurd rfl h4
theorem c_over {i w : Int} (hi : -2147483648 ≤ i ∧ i < 2147483648) (hw : -2147483648 ≤ w ∧ w < 2147483648) (hC : RepC μ σ) (hok : stOk σ) : Ctr G mX10_over [.ref 0, vi i, vi w] (Hp μ) (CL μ (aOver σ i w, σ)) := by
  refine Ctr.of ?_
  have hsi := c_isSpace (G := G) (M := Hp μ) hi
  by_cases q1 : isS i
  · rw [cif_pos q1] at hsi
    have hf := isSp_sh q1
    have j1 := q1.1
    have j2 := q1.2
    have hs := rep_at q1 hC.1
    have ho := ok_at q1 hok.1
    have he := cT_rng ho
    have hp := pA_6 ho
    by_cases q2 : 0 ≤ w ∧ w ≤ 1
    · rw [show aOver σ i w = _ from cif_pos ⟨q1, q2⟩]
      have ha : Off 156 1 μ (up (up μ 156 0 ((cT (σ.1 i.toNat)) / (Int.gcd ((cT (σ.1 i.toNat))) (pA (σ.1 i.toNat).2.2.2) : Int))) 156 1 (pA (σ.1 i.toNat).2.2.2 / (Int.gcd ((cT (σ.1 i.toNat))) (pA (σ.1 i.toNat).2.2.2) : Int))) := (Off.rf.up (by omega) (by omega)).up (by omega) (by omega)
      by_cases q3 : w = 0
      · subst q3
        rw [show fracS _ _ 0 = _ from cif_pos rfl]
        refine E_iload_n dX10_over_0 rfl ?_
        refine E_callSR dX10_over_1 lkX10_92 (hsi) ?_
        refine E_if_eq 16 dX10_over_4 (fun h4 => ?_) (fun h4 => ?_)
        · -- 16
          first | exact absurd h4 (by decide) | (exfalso; omega)
        · -- 7
          refine E_iload_n dX10_over_7 rfl ?_
          refine E_if_lt 16 dX10_over_8 (fun h8 => ?_) (fun h8 => ?_)
          · -- 16
            first | exact absurd h4 (by decide) | (exfalso; omega)
          · -- 11
            refine E_iload_n dX10_over_11 rfl ?_
            refine E_iconst dX10_over_12 ?_
            refine E_icmp_le 20 dX10_over_13 (fun h13 => ?_) (fun h13 => ?_)
            · -- 20
              refine E_aload_n dX10_over_20 rfl ?_
              refine GX10_10 sk_0 dX10_over_21 ?_
              refine GX10_104 sk_1 dX10_over_24 ?_
              refine E_iload_n dX10_over_27 rfl ?_
              refine H_aald4 sk_2 dX10_over_28 (sp_at q1) ?_
              refine E_astore_n dX10_over_29 ?_
              refine E_aload_n dX10_over_30 rfl ?_
              refine GX10_62 sk_0 dX10_over_31 ?_
              refine E_aload_n dX10_over_34 rfl ?_
              refine E_callVR dX10_over_35 lkX10_208 (Hp_get hf.1) (c_characteristicTop hf hs ho) ?_
              refine E_aload_n dX10_over_38 rfl ?_
              refine E_callVR dX10_over_39 lkX10_194 (Hp_get hf.1) (c_allA hf hs ho) ?_
              refine E_callVU dX10_over_42 lkX10_197 (Hp_get sk_156) (c_reduce (x := cT (σ.1 i.toNat)) (z := pA (σ.1 i.toNat).2.2.2) (by omega) (by omega)) ?_
              refine E_iload_n dX10_over_45 rfl ?_
              refine E_if_ne 59 dX10_over_46 (fun h46 => ?_) (fun h46 => ?_)
              · -- 59
                exact absurd rfl h46
              · -- 49
                refine E_aload_n dX10_over_49 rfl ?_
                refine GX10_62 sk_0 dX10_over_50 ?_
                refine GX10_201 sk_156 dX10_over_53 ?_
                rw [up_r, if_neg (by decide), up_r, if_pos rfl]
                refine E_goto 66 dX10_over_56 ?_
                refine E_lret dX10_over_66 ?_
                exact ⟨rfl, _, rfl, hC.off ha (by omega), fun q hq => ha q (by omega)⟩
            · -- 16
              first | exact absurd h4 (by decide) | (exfalso; omega)
      · rw [show fracS _ _ w = _ from cif_neg q3]
        refine E_iload_n dX10_over_0 rfl ?_
        refine E_callSR dX10_over_1 lkX10_92 (hsi) ?_
        refine E_if_eq 16 dX10_over_4 (fun h4 => ?_) (fun h4 => ?_)
        · -- 16
          first | exact absurd h4 (by decide) | (exfalso; omega)
        · -- 7
          refine E_iload_n dX10_over_7 rfl ?_
          refine E_if_lt 16 dX10_over_8 (fun h8 => ?_) (fun h8 => ?_)
          · -- 16
            first | exact absurd h4 (by decide) | (exfalso; omega)
          · -- 11
            refine E_iload_n dX10_over_11 rfl ?_
            refine E_iconst dX10_over_12 ?_
            refine E_icmp_le 20 dX10_over_13 (fun h13 => ?_) (fun h13 => ?_)
            · -- 20
              refine E_aload_n dX10_over_20 rfl ?_
              refine GX10_10 sk_0 dX10_over_21 ?_
              refine GX10_104 sk_1 dX10_over_24 ?_
              refine E_iload_n dX10_over_27 rfl ?_
              refine H_aald4 sk_2 dX10_over_28 (sp_at q1) ?_
              refine E_astore_n dX10_over_29 ?_
              refine E_aload_n dX10_over_30 rfl ?_
              refine GX10_62 sk_0 dX10_over_31 ?_
              refine E_aload_n dX10_over_34 rfl ?_
              refine E_callVR dX10_over_35 lkX10_208 (Hp_get hf.1) (c_characteristicTop hf hs ho) ?_
              refine E_aload_n dX10_over_38 rfl ?_
              refine E_callVR dX10_over_39 lkX10_194 (Hp_get hf.1) (c_allA hf hs ho) ?_
              refine E_callVU dX10_over_42 lkX10_197 (Hp_get sk_156) (c_reduce (x := cT (σ.1 i.toNat)) (z := pA (σ.1 i.toNat).2.2.2) (by omega) (by omega)) ?_
              refine E_iload_n dX10_over_45 rfl ?_
              refine E_if_ne 59 dX10_over_46 (fun h46 => ?_) (fun h46 => ?_)
              · -- 59
                refine E_aload_n dX10_over_59 rfl ?_
                refine GX10_62 sk_0 dX10_over_60 ?_
                refine GX10_205 sk_156 dX10_over_63 ?_
                rw [up_r, if_pos rfl]
                refine E_lret dX10_over_66 ?_
                exact ⟨rfl, _, rfl, hC.off ha (by omega), fun q hq => ha q (by omega)⟩
              · -- 49
                exact absurd h46 q3
            · -- 16
              first | exact absurd h4 (by decide) | (exfalso; omega)
    · rw [show aOver σ i w = NOc from cif_neg (fun h => q2 h.2)]
      refine E_iload_n dX10_over_0 rfl ?_
      refine E_callSR dX10_over_1 lkX10_92 (hsi) ?_
      refine E_if_eq 16 dX10_over_4 (fun h4 => ?_) (fun h4 => ?_)
      · -- 16
        refine E_ldc2 dX10_over_16 coX10_167 ?_
        refine E_lret dX10_over_19 ?_
        exact ⟨rfl, _, rfl, hC, fun _ _ => rfl⟩
      · -- 7
        refine E_iload_n dX10_over_7 rfl ?_
        refine E_if_lt 16 dX10_over_8 (fun h8 => ?_) (fun h8 => ?_)
        · -- 16
          refine E_ldc2 dX10_over_16 coX10_167 ?_
          refine E_lret dX10_over_19 ?_
          exact ⟨rfl, _, rfl, hC, fun _ _ => rfl⟩
        · -- 11
          refine E_iload_n dX10_over_11 rfl ?_
          refine E_iconst dX10_over_12 ?_
          refine E_icmp_le 20 dX10_over_13 (fun h13 => ?_) (fun h13 => ?_)
          · -- 20
            exfalso; omega
          · -- 16
            refine E_ldc2 dX10_over_16 coX10_167 ?_
            refine E_lret dX10_over_19 ?_
            exact ⟨rfl, _, rfl, hC, fun _ _ => rfl⟩
  · rw [cif_neg q1] at hsi
    rw [show aOver σ i w = NOc from cif_neg (fun h => q1 h.1)]
    refine E_iload_n dX10_over_0 rfl ?_
    refine E_callSR dX10_over_1 lkX10_92 (hsi) ?_
    refine E_if_eq 16 dX10_over_4 (fun h4 => ?_) (fun h4 => ?_)
    · -- 16
      refine E_ldc2 dX10_over_16 coX10_167 ?_
      refine E_lret dX10_over_19 ?_
      exact ⟨rfl, _, rfl, hC, fun _ _ => rfl⟩
    · -- 7
      exact absurd rfl h4
theorem c_torsion {i k : Int} (hi : -2147483648 ≤ i ∧ i < 2147483648) (hw : -2147483648 ≤ k ∧ k < 2147483648) (hC : RepC μ σ) (hok : stOk σ) : Ctr G mX10_torsion [.ref 0, vi i, vi k] (Hp μ) (CL μ (aTorsion σ i k, σ)) := by
  refine Ctr.of ?_
  have hsi := c_isSpace (G := G) (M := Hp μ) hi
  by_cases q1 : isS i
  · rw [cif_pos q1] at hsi
    have hf := isSp_sh q1
    have l2 := at_lt q1
    have j1 := q1.1
    have j2 := q1.2
    have hs := rep_at q1 hC.1
    have ho := ok_at q1 hok.1
    have hr := rankC_rng ho
    have hl := torC_len ho
    by_cases q2 : -1 ≤ k
    · rw [show aTorsion σ i k = _ from cif_pos ⟨q1, q2⟩]
      by_cases q3 : k = -1
      · rw [cif_pos q3]
        refine E_iload_n dX10_torsion_0 rfl ?_
        refine E_callSR dX10_torsion_1 lkX10_92 (hsi) ?_
        refine E_if_eq 12 dX10_torsion_4 (fun h4 => ?_) (fun h4 => ?_)
        · -- 12
          first | exact absurd h4 (by decide) | (exfalso; omega)
        · -- 7
          refine E_iload_n dX10_torsion_7 rfl ?_
          refine E_iconst dX10_torsion_8 ?_
          refine E_icmp_ge 16 dX10_torsion_9 (fun h9 => ?_) (fun h9 => ?_)
          · -- 16
            refine E_aload_n dX10_torsion_16 rfl ?_
            refine GX10_55 sk_0 dX10_torsion_17 ?_
            refine E_aload_n dX10_torsion_20 rfl ?_
            refine GX10_10 sk_0 dX10_torsion_21 ?_
            refine GX10_104 sk_1 dX10_torsion_24 ?_
            refine E_iload_n dX10_torsion_27 rfl ?_
            refine H_aald4 sk_2 dX10_torsion_28 (sp_at q1) ?_
            refine E_callVV dX10_torsion_29 lkX10_172 (Hp_get sk_153) (c_study hf (by omega) hs ho) ?_
            rintro μ1 ⟨a1, a2, a3⟩
            refine E_iload_n dX10_torsion_32 rfl ?_
            refine E_iconst dX10_torsion_33 ?_
            refine E_icmp_ne 45 dX10_torsion_34 (fun h34 => ?_) (fun h34 => ?_)
            · -- 45
              exact absurd q3 h34
            · -- 37
              refine E_aload_n dX10_torsion_37 rfl ?_
              refine GX10_55 sk_0 dX10_torsion_38 ?_
              refine E_callVR dX10_torsion_41 lkX10_213 (Hp_get sk_153) (c_order a1 a2 (by omega)) ?_
              refine E_lret dX10_torsion_44 ?_
              exact ⟨rfl, _, rfl, hC.off a3 (by omega), fun q hq => a3 q (by omega)⟩
          · -- 12
            first | exact absurd h4 (by decide) | (exfalso; omega)
      · rw [cif_neg q3]
        by_cases q4 : k < (torC (σ.1 i.toNat)).length
        · rw [cif_pos q4]
          refine E_iload_n dX10_torsion_0 rfl ?_
          refine E_callSR dX10_torsion_1 lkX10_92 (hsi) ?_
          refine E_if_eq 12 dX10_torsion_4 (fun h4 => ?_) (fun h4 => ?_)
          · -- 12
            first | exact absurd h4 (by decide) | (exfalso; omega)
          · -- 7
            refine E_iload_n dX10_torsion_7 rfl ?_
            refine E_iconst dX10_torsion_8 ?_
            refine E_icmp_ge 16 dX10_torsion_9 (fun h9 => ?_) (fun h9 => ?_)
            · -- 16
              refine E_aload_n dX10_torsion_16 rfl ?_
              refine GX10_55 sk_0 dX10_torsion_17 ?_
              refine E_aload_n dX10_torsion_20 rfl ?_
              refine GX10_10 sk_0 dX10_torsion_21 ?_
              refine GX10_104 sk_1 dX10_torsion_24 ?_
              refine E_iload_n dX10_torsion_27 rfl ?_
              refine H_aald4 sk_2 dX10_torsion_28 (sp_at q1) ?_
              refine E_callVV dX10_torsion_29 lkX10_172 (Hp_get sk_153) (c_study hf (by omega) hs ho) ?_
              rintro μ1 ⟨a1, a2, a3⟩
              have a4 := a1.1
              have a5 : μ1 155 k = (torC (σ.1 i.toNat)).getD k.toNat 0 := by
                have := a1.2.2 k.toNat ((torC (σ.1 i.toNat)).getD k.toNat 0) (by rw [List.getD_eq_getElem?_getD, List.getElem?_eq_getElem (by omega)]; rfl)
                rw [show ((k.toNat : Nat) : Int) = k by omega] at this
                exact this
              refine E_iload_n dX10_torsion_32 rfl ?_
              refine E_iconst dX10_torsion_33 ?_
              refine E_icmp_ne 45 dX10_torsion_34 (fun h34 => ?_) (fun h34 => ?_)
              · -- 45
                refine E_iload_n dX10_torsion_45 rfl ?_
                refine E_aload_n dX10_torsion_46 rfl ?_
                refine GX10_55 sk_0 dX10_torsion_47 ?_
                refine GX10_178 sk_153 dX10_torsion_50 ?_
                refine E_icmp_ge 68 dX10_torsion_53 (fun h53 => ?_) (fun h53 => ?_)
                · -- 68
                  exfalso; omega
                · -- 56
                  refine E_aload_n dX10_torsion_56 rfl ?_
                  refine GX10_55 sk_0 dX10_torsion_57 ?_
                  refine GX10_216 sk_153 dX10_torsion_60 ?_
                  refine E_iload_n dX10_torsion_63 rfl ?_
                  refine H_lald sk_155 dX10_torsion_64 ?_
                  rw [a5]
                  refine E_goto 71 dX10_torsion_65 ?_
                  refine E_lret dX10_torsion_71 ?_
                  exact ⟨rfl, _, rfl, hC.off a3 (by omega), fun q hq => a3 q (by omega)⟩
              · -- 37
                exact absurd h34 q3
            · -- 12
              first | exact absurd h4 (by decide) | (exfalso; omega)
        · rw [cif_neg q4]
          refine E_iload_n dX10_torsion_0 rfl ?_
          refine E_callSR dX10_torsion_1 lkX10_92 (hsi) ?_
          refine E_if_eq 12 dX10_torsion_4 (fun h4 => ?_) (fun h4 => ?_)
          · -- 12
            first | exact absurd h4 (by decide) | (exfalso; omega)
          · -- 7
            refine E_iload_n dX10_torsion_7 rfl ?_
            refine E_iconst dX10_torsion_8 ?_
            refine E_icmp_ge 16 dX10_torsion_9 (fun h9 => ?_) (fun h9 => ?_)
            · -- 16
              refine E_aload_n dX10_torsion_16 rfl ?_
              refine GX10_55 sk_0 dX10_torsion_17 ?_
              refine E_aload_n dX10_torsion_20 rfl ?_
              refine GX10_10 sk_0 dX10_torsion_21 ?_
              refine GX10_104 sk_1 dX10_torsion_24 ?_
              refine E_iload_n dX10_torsion_27 rfl ?_
              refine H_aald4 sk_2 dX10_torsion_28 (sp_at q1) ?_
              refine E_callVV dX10_torsion_29 lkX10_172 (Hp_get sk_153) (c_study hf (by omega) hs ho) ?_
              rintro μ1 ⟨a1, a2, a3⟩
              have a4 := a1.1
              refine E_iload_n dX10_torsion_32 rfl ?_
              refine E_iconst dX10_torsion_33 ?_
              refine E_icmp_ne 45 dX10_torsion_34 (fun h34 => ?_) (fun h34 => ?_)
              · -- 45
                refine E_iload_n dX10_torsion_45 rfl ?_
                refine E_aload_n dX10_torsion_46 rfl ?_
                refine GX10_55 sk_0 dX10_torsion_47 ?_
                refine GX10_178 sk_153 dX10_torsion_50 ?_
                refine E_icmp_ge 68 dX10_torsion_53 (fun h53 => ?_) (fun h53 => ?_)
                · -- 68
                  refine E_ldc2 dX10_torsion_68 coX10_219 ?_
                  refine E_lret dX10_torsion_71 ?_
                  exact ⟨rfl, _, rfl, hC.off a3 (by omega), fun q hq => a3 q (by omega)⟩
                · -- 56
                  exfalso; omega
              · -- 37
                exact absurd h34 q3
            · -- 12
              first | exact absurd h4 (by decide) | (exfalso; omega)
    · rw [show aTorsion σ i k = -1 from cif_neg (fun h => q2 h.2)]
      refine E_iload_n dX10_torsion_0 rfl ?_
      refine E_callSR dX10_torsion_1 lkX10_92 (hsi) ?_
      refine E_if_eq 12 dX10_torsion_4 (fun h4 => ?_) (fun h4 => ?_)
      · -- 12
        refine E_ldc2 dX10_torsion_12 coX10_211 ?_
        refine E_lret dX10_torsion_15 ?_
        exact ⟨rfl, _, rfl, hC, fun _ _ => rfl⟩
      · -- 7
        refine E_iload_n dX10_torsion_7 rfl ?_
        refine E_iconst dX10_torsion_8 ?_
        refine E_icmp_ge 16 dX10_torsion_9 (fun h9 => ?_) (fun h9 => ?_)
        · -- 16
          exfalso; omega
        · -- 12
          refine E_ldc2 dX10_torsion_12 coX10_211 ?_
          refine E_lret dX10_torsion_15 ?_
          exact ⟨rfl, _, rfl, hC, fun _ _ => rfl⟩
  · rw [cif_neg q1] at hsi
    rw [show aTorsion σ i k = -1 from cif_neg (fun h => q1 h.1)]
    refine E_iload_n dX10_torsion_0 rfl ?_
    refine E_callSR dX10_torsion_1 lkX10_92 (hsi) ?_
    refine E_if_eq 12 dX10_torsion_4 (fun h4 => ?_) (fun h4 => ?_)
    · -- 12
      refine E_ldc2 dX10_torsion_12 coX10_211 ?_
      refine E_lret dX10_torsion_15 ?_
      exact ⟨rfl, _, rfl, hC, fun _ _ => rfl⟩
    · -- 7
      exact absurd rfl h4
theorem c_cyclicMaps {i m : Int} (q1 : isS i) (hm : 2 ≤ m ∧ m ≤ 12) (hs : RepS μ (3 + 3 * i.toNat) (σ.1 i.toNat)) (ho : spOk (σ.1 i.toNat)) : Ctr G mX10_cyclicMaps [.ref 0, vi i, vi m] (Hp μ) (V1 (vl (mapS (σ.1 i.toNat) m)) (fun μ' => Off 153 3 μ μ')) := by
  refine Ctr.of ?_
  have hf := isSp_sh q1
  have l2 := at_lt q1
  have j1 := q1.1
  have j2 := q1.2
  have hr := rankC_rng ho
  have hl := torC_len ho
  refine E_aload_n dX10_cyclicMaps_0 rfl ?_
  refine GX10_55 sk_0 dX10_cyclicMaps_1 ?_
  refine E_aload_n dX10_cyclicMaps_4 rfl ?_
  refine GX10_10 sk_0 dX10_cyclicMaps_5 ?_
  refine GX10_104 sk_1 dX10_cyclicMaps_8 ?_
  refine E_iload_n dX10_cyclicMaps_11 rfl ?_
  refine H_aald4 sk_2 dX10_cyclicMaps_12 (sp_at q1) ?_
  refine E_callVV dX10_cyclicMaps_13 lkX10_172 (Hp_get sk_153) (c_study hf (by omega) hs ho) ?_
  rintro μ1 ⟨a1, a2, a3⟩
  refine E_aload_n dX10_cyclicMaps_16 rfl ?_
  refine GX10_55 sk_0 dX10_cyclicMaps_17 ?_
  refine E_iload_n dX10_cyclicMaps_20 rfl ?_
  refine E_callVR dX10_cyclicMaps_21 lkX10_270 (Hp_get sk_153) (c_mapsInto (rk := rankC (σ.1 i.toNat)) a1 hm (torC_r4 ho) a2 (by omega)) ?_
  refine E_lret dX10_cyclicMaps_24 ?_
  exact ⟨rfl, _, rfl, a3⟩
theorem c_maps {i m : Int} (hi : -2147483648 ≤ i ∧ i < 2147483648) (hm : -2147483648 ≤ m ∧ m < 2147483648) (hC : RepC μ σ) (hok : stOk σ) : Ctr G mX10_maps [.ref 0, vi i, vi m] (Hp μ) (CL μ (aMaps σ i m, σ)) := by
  refine Ctr.of ?_
  have hsi := c_isSpace (G := G) (M := Hp μ) hi
  have hso := c_isOrder (G := G) (M := Hp μ) hm
  by_cases q1 : isS i
  · rw [cif_pos q1] at hsi
    by_cases q2 : 2 ≤ m ∧ m ≤ 12
    · rw [cif_pos q2] at hso
      rw [show aMaps σ i m = _ from cif_pos ⟨q1, q2⟩]
      refine E_iload_n dX10_maps_0 rfl ?_
      refine E_callSR dX10_maps_1 lkX10_92 (hsi) ?_
      refine E_if_eq 14 dX10_maps_4 (fun h4 => ?_) (fun h4 => ?_)
      · -- 14
        first | exact absurd h4 (by decide) | exact absurd h11 (by decide)
      · -- 7
        refine E_iload_n dX10_maps_7 rfl ?_
        refine E_callSR dX10_maps_8 lkX10_221 (hso) ?_
        refine E_if_ne 18 dX10_maps_11 (fun h11 => ?_) (fun h11 => ?_)
        · -- 18
          refine E_aload_n dX10_maps_18 rfl ?_
          refine E_iload_n dX10_maps_19 rfl ?_
          refine E_iload_n dX10_maps_20 rfl ?_
          refine E_callVW dX10_maps_21 lkX10_224 (Hp_get sk_0) (c_cyclicMaps q1 q2 (rep_at q1 hC.1) (ok_at q1 hok.1)) ?_
          intro μ1 a3
          refine E_lret dX10_maps_24 ?_
          exact ⟨rfl, _, rfl, hC.off a3 (by omega), fun q hq => a3 q (by omega)⟩
        · -- 14
          first | exact absurd h4 (by decide) | exact absurd h11 (by decide)
    · rw [cif_neg q2] at hso
      rw [show aMaps σ i m = -1 from cif_neg (fun h => q2 h.2)]
      refine E_iload_n dX10_maps_0 rfl ?_
      refine E_callSR dX10_maps_1 lkX10_92 (hsi) ?_
      refine E_if_eq 14 dX10_maps_4 (fun h4 => ?_) (fun h4 => ?_)
      · -- 14
        refine E_ldc2 dX10_maps_14 coX10_211 ?_
        refine E_lret dX10_maps_17 ?_
        exact ⟨rfl, _, rfl, hC, fun _ _ => rfl⟩
      · -- 7
        refine E_iload_n dX10_maps_7 rfl ?_
        refine E_callSR dX10_maps_8 lkX10_221 (hso) ?_
        refine E_if_ne 18 dX10_maps_11 (fun h11 => ?_) (fun h11 => ?_)
        · -- 18
          exact absurd rfl h11
        · -- 14
          refine E_ldc2 dX10_maps_14 coX10_211 ?_
          refine E_lret dX10_maps_17 ?_
          exact ⟨rfl, _, rfl, hC, fun _ _ => rfl⟩
  · rw [cif_neg q1] at hsi
    rw [show aMaps σ i m = -1 from cif_neg (fun h => q1 h.1)]
    refine E_iload_n dX10_maps_0 rfl ?_
    refine E_callSR dX10_maps_1 lkX10_92 (hsi) ?_
    refine E_if_eq 14 dX10_maps_4 (fun h4 => ?_) (fun h4 => ?_)
    · -- 14
      refine E_ldc2 dX10_maps_14 coX10_211 ?_
      refine E_lret dX10_maps_17 ?_
      exact ⟨rfl, _, rfl, hC, fun _ _ => rfl⟩
    · -- 7
      exact absurd rfl h4
theorem c_threes {i : Int} (hi : -2147483648 ≤ i ∧ i < 2147483648) (hC : RepC μ σ) (hok : stOk σ) : Ctr G mX10_threes [.ref 0, vi i] (Hp μ) (CL μ (aThrees σ i, σ)) := by
  refine Ctr.of ?_
  have hsi := c_isSpace (G := G) (M := Hp μ) hi
  by_cases q1 : isS i
  · rw [cif_pos q1] at hsi
    rw [show aThrees σ i = _ from cif_pos q1]
    have hf := isSp_sh q1
    have l2 := at_lt q1
    have j1 := q1.1
    have j2 := q1.2
    refine E_iload_n dX10_threes_0 rfl ?_
    refine E_callSR dX10_threes_1 lkX10_92 (hsi) ?_
    refine E_if_ne 11 dX10_threes_4 (fun h4 => ?_) (fun h4 => ?_)
    · -- 11
      refine E_aload_n dX10_threes_11 rfl ?_
      refine GX10_69 sk_0 dX10_threes_12 ?_
      refine E_aload_n dX10_threes_15 rfl ?_
      refine GX10_10 sk_0 dX10_threes_16 ?_
      refine GX10_104 sk_1 dX10_threes_19 ?_
      refine E_iload_n dX10_threes_22 rfl ?_
      refine H_aald4 sk_2 dX10_threes_23 (sp_at q1) ?_
      refine E_callVW dX10_threes_24 lkX10_228 (Hp_get sk_157) (c_ways hf (by omega) (rep_at q1 hC.1) (ok_at q1 hok.1)) ?_
      intro μ1 a3
      refine E_lret dX10_threes_27 ?_
      exact ⟨rfl, _, rfl, hC.off a3 (by omega), fun q hq => a3 q (by omega)⟩
    · -- 7
      exact absurd h4 (by decide)
  · rw [cif_neg q1] at hsi
    rw [show aThrees σ i = -1 from cif_neg q1]
    refine E_iload_n dX10_threes_0 rfl ?_
    refine E_callSR dX10_threes_1 lkX10_92 (hsi) ?_
    refine E_if_ne 11 dX10_threes_4 (fun h4 => ?_) (fun h4 => ?_)
    · -- 11
      exact absurd rfl h4
    · -- 7
      refine E_ldc2 dX10_threes_7 coX10_211 ?_
      refine E_lret dX10_threes_10 ?_
      exact ⟨rfl, _, rfl, hC, fun _ _ => rfl⟩
theorem c_lens {i w : Int} (hi : -2147483648 ≤ i ∧ i < 2147483648) (hw : -2147483648 ≤ w ∧ w < 2147483648) (hC : RepC μ σ) (hok : stOk σ) : Ctr G mX10_lens [.ref 0, vi i, vi w] (Hp μ) (CL μ (aLens σ i w, σ)) := by
  refine Ctr.of ?_
  have hsi := c_isSpace (G := G) (M := Hp μ) hi
  by_cases q1 : isS i
  · rw [cif_pos q1] at hsi
    have hf := isSp_sh q1
    have l2 := at_lt q1
    have j1 := q1.1
    have j2 := q1.2
    have hs := rep_at q1 hC.1
    have ho := ok_at q1 hok.1
    obtain ⟨s0, s1, s2, s3, -⟩ := id hs
    obtain ⟨o0, o1, o2, o3, o4, o5, -⟩ := id ho
    by_cases q2 : 0 ≤ w ∧ w ≤ 1
    · rw [show aLens σ i w = _ from cif_pos ⟨q1, q2⟩]
      by_cases q3 : (σ.1 i.toNat).1 = 0 ∧ (σ.1 i.toNat).2.1 = 0 ∧ (σ.1 i.toNat).2.2.2.length ≤ 2
      · rw [cif_pos q3]
        by_cases q4 : w = 0
        · subst q4
          rw [show lensS _ 0 = _ from cif_pos rfl]
          refine E_iload_n dX10_lens_0 rfl ?_
          refine E_callSR dX10_lens_1 lkX10_92 (hsi) ?_
          refine E_if_eq 16 dX10_lens_4 (fun h4 => ?_) (fun h4 => ?_)
          · -- 16
            first | exact absurd h4 (by decide) | (exfalso; omega)
          · -- 7
            refine E_iload_n dX10_lens_7 rfl ?_
            refine E_if_lt 16 dX10_lens_8 (fun h8 => ?_) (fun h8 => ?_)
            · -- 16
              first | exact absurd h4 (by decide) | (exfalso; omega)
            · -- 11
              refine E_iload_n dX10_lens_11 rfl ?_
              refine E_iconst dX10_lens_12 ?_
              refine E_icmp_le 20 dX10_lens_13 (fun h13 => ?_) (fun h13 => ?_)
              · -- 20
                refine E_aload_n dX10_lens_20 rfl ?_
                refine GX10_10 sk_0 dX10_lens_21 ?_
                refine GX10_104 sk_1 dX10_lens_24 ?_
                refine E_iload_n dX10_lens_27 rfl ?_
                refine H_aald4 sk_2 dX10_lens_28 (sp_at q1) ?_
                refine E_astore_n dX10_lens_29 ?_
                refine E_aload_n dX10_lens_30 rfl ?_
                refine GX10_154 hf.1 dX10_lens_31 ?_
                refine E_if_ne 52 dX10_lens_34 (fun h34 => ?_) (fun h34 => ?_)
                · -- 52
                  exfalso; omega
                · -- 37
                  refine E_aload_n dX10_lens_37 rfl ?_
                  refine GX10_151 hf.1 dX10_lens_38 ?_
                  refine E_if_ne 52 dX10_lens_41 (fun h41 => ?_) (fun h41 => ?_)
                  · -- 52
                    exfalso; omega
                  · -- 44
                    refine E_aload_n dX10_lens_44 rfl ?_
                    refine GX10_120 hf.1 dX10_lens_45 ?_
                    refine E_iconst dX10_lens_48 ?_
                    refine E_icmp_le 56 dX10_lens_49 (fun h49 => ?_) (fun h49 => ?_)
                    · -- 56
                      refine E_aload_n dX10_lens_56 rfl ?_
                      refine GX10_76 sk_0 dX10_lens_57 ?_
                      refine E_aload_n dX10_lens_60 rfl ?_
                      refine E_callVV dX10_lens_61 lkX10_234 (Hp_get sk_161) (c_lstudy hf (by omega) hs ho q3.2.2) ?_
                      rintro μ1 ⟨a1, a2, a3⟩
                      refine E_iload_n dX10_lens_64 rfl ?_
                      refine E_if_ne 78 dX10_lens_65 (fun h65 => ?_) (fun h65 => ?_)
                      · -- 78
                        exact absurd rfl h65
                      · -- 68
                        refine E_aload_n dX10_lens_68 rfl ?_
                        refine GX10_76 sk_0 dX10_lens_69 ?_
                        refine GX10_235 sk_161 dX10_lens_72 ?_
                        rw [a1]
                        refine E_goto 85 dX10_lens_75 ?_
                        refine E_lret dX10_lens_85 ?_
                        exact ⟨rfl, _, rfl, hC.off a3 (by omega), fun q hq => a3 q (by omega)⟩
                    · -- 52
                      exfalso; omega
              · -- 16
                first | exact absurd h4 (by decide) | (exfalso; omega)
        · rw [show lensS _ w = _ from cif_neg q4]
          refine E_iload_n dX10_lens_0 rfl ?_
          refine E_callSR dX10_lens_1 lkX10_92 (hsi) ?_
          refine E_if_eq 16 dX10_lens_4 (fun h4 => ?_) (fun h4 => ?_)
          · -- 16
            first | exact absurd h4 (by decide) | (exfalso; omega)
          · -- 7
            refine E_iload_n dX10_lens_7 rfl ?_
            refine E_if_lt 16 dX10_lens_8 (fun h8 => ?_) (fun h8 => ?_)
            · -- 16
              first | exact absurd h4 (by decide) | (exfalso; omega)
            · -- 11
              refine E_iload_n dX10_lens_11 rfl ?_
              refine E_iconst dX10_lens_12 ?_
              refine E_icmp_le 20 dX10_lens_13 (fun h13 => ?_) (fun h13 => ?_)
              · -- 20
                refine E_aload_n dX10_lens_20 rfl ?_
                refine GX10_10 sk_0 dX10_lens_21 ?_
                refine GX10_104 sk_1 dX10_lens_24 ?_
                refine E_iload_n dX10_lens_27 rfl ?_
                refine H_aald4 sk_2 dX10_lens_28 (sp_at q1) ?_
                refine E_astore_n dX10_lens_29 ?_
                refine E_aload_n dX10_lens_30 rfl ?_
                refine GX10_154 hf.1 dX10_lens_31 ?_
                refine E_if_ne 52 dX10_lens_34 (fun h34 => ?_) (fun h34 => ?_)
                · -- 52
                  exfalso; omega
                · -- 37
                  refine E_aload_n dX10_lens_37 rfl ?_
                  refine GX10_151 hf.1 dX10_lens_38 ?_
                  refine E_if_ne 52 dX10_lens_41 (fun h41 => ?_) (fun h41 => ?_)
                  · -- 52
                    exfalso; omega
                  · -- 44
                    refine E_aload_n dX10_lens_44 rfl ?_
                    refine GX10_120 hf.1 dX10_lens_45 ?_
                    refine E_iconst dX10_lens_48 ?_
                    refine E_icmp_le 56 dX10_lens_49 (fun h49 => ?_) (fun h49 => ?_)
                    · -- 56
                      refine E_aload_n dX10_lens_56 rfl ?_
                      refine GX10_76 sk_0 dX10_lens_57 ?_
                      refine E_aload_n dX10_lens_60 rfl ?_
                      refine E_callVV dX10_lens_61 lkX10_234 (Hp_get sk_161) (c_lstudy hf (by omega) hs ho q3.2.2) ?_
                      rintro μ1 ⟨a1, a2, a3⟩
                      refine E_iload_n dX10_lens_64 rfl ?_
                      refine E_if_ne 78 dX10_lens_65 (fun h65 => ?_) (fun h65 => ?_)
                      · -- 78
                        refine E_aload_n dX10_lens_78 rfl ?_
                        refine GX10_76 sk_0 dX10_lens_79 ?_
                        refine GX10_238 sk_161 dX10_lens_82 ?_
                        rw [a2]
                        refine E_lret dX10_lens_85 ?_
                        exact ⟨rfl, _, rfl, hC.off a3 (by omega), fun q hq => a3 q (by omega)⟩
                      · -- 68
                        exact absurd h65 q4
                    · -- 52
                      exfalso; omega
              · -- 16
                first | exact absurd h4 (by decide) | (exfalso; omega)
      · rw [cif_neg q3]
        refine E_iload_n dX10_lens_0 rfl ?_
        refine E_callSR dX10_lens_1 lkX10_92 (hsi) ?_
        refine E_if_eq 16 dX10_lens_4 (fun h4 => ?_) (fun h4 => ?_)
        · -- 16
          first | exact absurd h4 (by decide) | (exfalso; omega)
        · -- 7
          refine E_iload_n dX10_lens_7 rfl ?_
          refine E_if_lt 16 dX10_lens_8 (fun h8 => ?_) (fun h8 => ?_)
          · -- 16
            first | exact absurd h4 (by decide) | (exfalso; omega)
          · -- 11
            refine E_iload_n dX10_lens_11 rfl ?_
            refine E_iconst dX10_lens_12 ?_
            refine E_icmp_le 20 dX10_lens_13 (fun h13 => ?_) (fun h13 => ?_)
            · -- 20
              refine E_aload_n dX10_lens_20 rfl ?_
              refine GX10_10 sk_0 dX10_lens_21 ?_
              refine GX10_104 sk_1 dX10_lens_24 ?_
              refine E_iload_n dX10_lens_27 rfl ?_
              refine H_aald4 sk_2 dX10_lens_28 (sp_at q1) ?_
              refine E_astore_n dX10_lens_29 ?_
              refine E_aload_n dX10_lens_30 rfl ?_
              refine GX10_154 hf.1 dX10_lens_31 ?_
              refine E_if_ne 52 dX10_lens_34 (fun h34 => ?_) (fun h34 => ?_)
              · -- 52
                refine E_ldc2 dX10_lens_52 coX10_232 ?_
                refine E_lret dX10_lens_55 ?_
                exact ⟨rfl, _, rfl, hC, fun _ _ => rfl⟩
              · -- 37
                refine E_aload_n dX10_lens_37 rfl ?_
                refine GX10_151 hf.1 dX10_lens_38 ?_
                refine E_if_ne 52 dX10_lens_41 (fun h41 => ?_) (fun h41 => ?_)
                · -- 52
                  refine E_ldc2 dX10_lens_52 coX10_232 ?_
                  refine E_lret dX10_lens_55 ?_
                  exact ⟨rfl, _, rfl, hC, fun _ _ => rfl⟩
                · -- 44
                  refine E_aload_n dX10_lens_44 rfl ?_
                  refine GX10_120 hf.1 dX10_lens_45 ?_
                  refine E_iconst dX10_lens_48 ?_
                  refine E_icmp_le 56 dX10_lens_49 (fun h49 => ?_) (fun h49 => ?_)
                  · -- 56
                    exfalso; omega
                  · -- 52
                    refine E_ldc2 dX10_lens_52 coX10_232 ?_
                    refine E_lret dX10_lens_55 ?_
                    exact ⟨rfl, _, rfl, hC, fun _ _ => rfl⟩
            · -- 16
              first | exact absurd h4 (by decide) | (exfalso; omega)
    · rw [show aLens σ i w = -1 from cif_neg (fun h => q2 h.2)]
      refine E_iload_n dX10_lens_0 rfl ?_
      refine E_callSR dX10_lens_1 lkX10_92 (hsi) ?_
      refine E_if_eq 16 dX10_lens_4 (fun h4 => ?_) (fun h4 => ?_)
      · -- 16
        refine E_ldc2 dX10_lens_16 coX10_211 ?_
        refine E_lret dX10_lens_19 ?_
        exact ⟨rfl, _, rfl, hC, fun _ _ => rfl⟩
      · -- 7
        refine E_iload_n dX10_lens_7 rfl ?_
        refine E_if_lt 16 dX10_lens_8 (fun h8 => ?_) (fun h8 => ?_)
        · -- 16
          refine E_ldc2 dX10_lens_16 coX10_211 ?_
          refine E_lret dX10_lens_19 ?_
          exact ⟨rfl, _, rfl, hC, fun _ _ => rfl⟩
        · -- 11
          refine E_iload_n dX10_lens_11 rfl ?_
          refine E_iconst dX10_lens_12 ?_
          refine E_icmp_le 20 dX10_lens_13 (fun h13 => ?_) (fun h13 => ?_)
          · -- 20
            exfalso; omega
          · -- 16
            refine E_ldc2 dX10_lens_16 coX10_211 ?_
            refine E_lret dX10_lens_19 ?_
            exact ⟨rfl, _, rfl, hC, fun _ _ => rfl⟩
  · rw [cif_neg q1] at hsi
    rw [show aLens σ i w = -1 from cif_neg (fun h => q1 h.1)]
    refine E_iload_n dX10_lens_0 rfl ?_
    refine E_callSR dX10_lens_1 lkX10_92 (hsi) ?_
    refine E_if_eq 16 dX10_lens_4 (fun h4 => ?_) (fun h4 => ?_)
    · -- 16
      refine E_ldc2 dX10_lens_16 coX10_211 ?_
      refine E_lret dX10_lens_19 ?_
      exact ⟨rfl, _, rfl, hC, fun _ _ => rfl⟩
    · -- 7
      exact absurd rfl h4
end VIEWS
