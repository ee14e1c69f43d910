/-! FibredSpacesModel: lens, its call -/
section MLENS2
variable {G : GT} {μ : Mem} {M : HV} {σ : St}
theorem m_findLens {i : Int} {s : Sp} (hi : isS i) (hs : RepN μ 204 (16 * i) s) (hok : spOk s) (h2 : s.2.2.2.length ≤ 2) : Ctr G mX11_findLens [.ref 203, vi i] (Hp μ) (V0 (FlQ μ (lenA s) (lenB s) (lenC s) (lenD s))) := by
  refine Ctr.of ?_
  have j1 := hi.1
  have j2 := hi.2
  have k0 := hok.2.2.2.1
  have k1 := hok.2.2.2.2.1
  have k2 := hok.2.2.2.2.2.2
  have k5 := hs.2.2.1
  have hf := m_fibres (G := G) hi hs
  have hA := fun (k : Nat) (x : Fib) (hk : k < 6) (hx : s.2.2.2[k]? = some x) => m_a (G := G) hi hs hk hx
  have hB := fun (k : Nat) (x : Fib) (hk : k < 6) (hx : s.2.2.2[k]? = some x) => m_b (G := G) hi hs hk hx
  obtain ⟨kd, ge, sh, l⟩ := s
  simp only at k0 k1 k2 k5 h2 hf hA hB
  match l, k2, h2, hf, hA, hB with
  | [], k2, h2, hf, hA, hB =>
    simp only [List.length_nil] at hf
    refine E_lconst1 dX11_findLens_0 ?_
    refine E_lstore_n dX11_findLens_1 ?_
    refine E_aload_n dX11_findLens_2 rfl ?_
    refine GX11_7 sk_203 dX11_findLens_3 ?_
    refine E_bipush dX11_findLens_6 ?_
    refine E_iload_n dX11_findLens_8 rfl ?_
    refine E_imul dX11_findLens_9 ?_
    refine E_iconst dX11_findLens_10 ?_
    refine E_iadd dX11_findLens_11 ?_
    refine H_iald sk_204 dX11_findLens_12 ?_
    rw [k5]
    refine E_i2l dX11_findLens_13 ?_
    refine E_lstore dX11_findLens_14 ?_
    refine E_lconst1 dX11_findLens_16 ?_
    refine E_lstore dX11_findLens_17 ?_
    refine E_lconst0 dX11_findLens_19 ?_
    refine E_lstore dX11_findLens_20 ?_
    refine E_aload_n dX11_findLens_22 rfl ?_
    refine E_iload_n dX11_findLens_23 rfl ?_
    refine E_callVR dX11_findLens_24 lkX11_100 (Hp_get sk_203) (hf) ?_
    refine E_if_le 62 dX11_findLens_27 (fun h27 => ?_) (fun h27 => ?_)
    · -- 62
      refine E_aload_n dX11_findLens_62 rfl ?_
      refine E_iload_n dX11_findLens_63 rfl ?_
      refine E_callVR dX11_findLens_64 lkX11_100 (Hp_get sk_203) (hf) ?_
      refine E_iconst dX11_findLens_67 ?_
      refine E_icmp_le 89 dX11_findLens_68 (fun h68 => ?_) (fun h68 => ?_)
      · -- 89
        exact fl_tail (μ := μ) (a := 1) (b := sh) (c := 1) (d := 0) (by omega) (by omega) (by omega) (by omega) (by simp) (by simp)
      · -- 71
        exfalso; omega
    · -- 30
      exfalso; omega
  | [x], k2, h2, hf, hA, hB =>
    simp only [List.length_cons, List.length_nil] at hf
    obtain ⟨x1, x2, x3, x4, x5⟩ := k2 x (by simp)
    have hA0 := hA 0 x (by omega) rfl
    have hB0 := hB 0 x (by omega) rfl
    simp only [Int.natCast_zero] at hA0 hB0
    have hb : -30000 ≤ x.1 * sh ∧ x.1 * sh ≤ 30000 := by
      have t1 := Int.mul_le_mul_of_nonneg_left k0 (show 0 ≤ x.1 by omega)
      have t2 := Int.mul_le_mul_of_nonneg_left k1 (show 0 ≤ x.1 by omega)
      omega
    refine E_lconst1 dX11_findLens_0 ?_
    refine E_lstore_n dX11_findLens_1 ?_
    refine E_aload_n dX11_findLens_2 rfl ?_
    refine GX11_7 sk_203 dX11_findLens_3 ?_
    refine E_bipush dX11_findLens_6 ?_
    refine E_iload_n dX11_findLens_8 rfl ?_
    refine E_imul dX11_findLens_9 ?_
    refine E_iconst dX11_findLens_10 ?_
    refine E_iadd dX11_findLens_11 ?_
    refine H_iald sk_204 dX11_findLens_12 ?_
    rw [k5]
    refine E_i2l dX11_findLens_13 ?_
    refine E_lstore dX11_findLens_14 ?_
    refine E_lconst1 dX11_findLens_16 ?_
    refine E_lstore dX11_findLens_17 ?_
    refine E_lconst0 dX11_findLens_19 ?_
    refine E_lstore dX11_findLens_20 ?_
    refine E_aload_n dX11_findLens_22 rfl ?_
    refine E_iload_n dX11_findLens_23 rfl ?_
    refine E_callVR dX11_findLens_24 lkX11_100 (Hp_get sk_203) (hf) ?_
    refine E_if_le 62 dX11_findLens_27 (fun h27 => ?_) (fun h27 => ?_)
    · -- 62
      refine E_aload_n dX11_findLens_62 rfl ?_
      refine E_iload_n dX11_findLens_63 rfl ?_
      refine E_callVR dX11_findLens_64 lkX11_100 (Hp_get sk_203) (hf) ?_
      refine E_iconst dX11_findLens_67 ?_
      refine E_icmp_le 89 dX11_findLens_68 (fun h68 => ?_) (fun h68 => ?_)
      · -- 89
        first | (exfalso; omega) | exact fl_tail (μ := μ) (a := x.1) (b := x.2 + x.1 * sh) (c := 1) (d := 0) (by omega) (by omega) (by omega) (by omega) (by rw [Int.gcd_add_mul_left_left, Int.gcd_comm]; exact x5) (by simp)
      · -- 71
        exfalso; omega
    · -- 30
      refine E_aload_n dX11_findLens_30 rfl ?_
      refine E_iload_n dX11_findLens_31 rfl ?_
      refine E_iconst dX11_findLens_32 ?_
      refine E_callVR dX11_findLens_33 lkX11_90 (Hp_get sk_203) (hA0) ?_
      refine E_i2l dX11_findLens_36 ?_
      refine E_lstore_n dX11_findLens_37 ?_
      refine E_aload_n dX11_findLens_38 rfl ?_
      refine E_iload_n dX11_findLens_39 rfl ?_
      refine E_iconst dX11_findLens_40 ?_
      refine E_callVR dX11_findLens_41 lkX11_93 (Hp_get sk_203) (hB0) ?_
      refine E_i2l dX11_findLens_44 ?_
      refine E_lload_n dX11_findLens_45 rfl ?_
      refine E_aload_n dX11_findLens_46 rfl ?_
      refine GX11_7 sk_203 dX11_findLens_47 ?_
      refine E_bipush dX11_findLens_50 ?_
      refine E_iload_n dX11_findLens_52 rfl ?_
      refine E_imul dX11_findLens_53 ?_
      refine E_iconst dX11_findLens_54 ?_
      refine E_iadd dX11_findLens_55 ?_
      refine H_iald sk_204 dX11_findLens_56 ?_
      rw [k5]
      refine E_i2l dX11_findLens_57 ?_
      refine E_lmul dX11_findLens_58 ?_
      refine E_ladd dX11_findLens_59 ?_
      refine E_lstore dX11_findLens_60 ?_
      refine E_aload_n dX11_findLens_62 rfl ?_
      refine E_iload_n dX11_findLens_63 rfl ?_
      refine E_callVR dX11_findLens_64 lkX11_100 (Hp_get sk_203) (hf) ?_
      refine E_iconst dX11_findLens_67 ?_
      refine E_icmp_le 89 dX11_findLens_68 (fun h68 => ?_) (fun h68 => ?_)
      · -- 89
        first | (exfalso; omega) | exact fl_tail (μ := μ) (a := x.1) (b := x.2 + x.1 * sh) (c := 1) (d := 0) (by omega) (by omega) (by omega) (by omega) (by rw [Int.gcd_add_mul_left_left, Int.gcd_comm]; exact x5) (by simp)
      · -- 71
        exfalso; omega
  | [x, z], k2, h2, hf, hA, hB =>
    simp only [List.length_cons, List.length_nil] at hf
    obtain ⟨x1, x2, x3, x4, x5⟩ := k2 x (by simp)
    obtain ⟨z1, z2, z3, z4, z5⟩ := k2 z (by simp)
    have hA0 := hA 0 x (by omega) rfl
    have hB0 := hB 0 x (by omega) rfl
    have hA1 := hA 1 z (by omega) rfl
    have hB1 := hB 1 z (by omega) rfl
    simp only [Int.natCast_zero] at hA0 hB0
    simp only [Int.natCast_one] at hA1 hB1
    have hb : -30000 ≤ x.1 * sh ∧ x.1 * sh ≤ 30000 := by
      have t1 := Int.mul_le_mul_of_nonneg_left k0 (show 0 ≤ x.1 by omega)
      have t2 := Int.mul_le_mul_of_nonneg_left k1 (show 0 ≤ x.1 by omega)
      omega
    refine E_lconst1 dX11_findLens_0 ?_
    refine E_lstore_n dX11_findLens_1 ?_
    refine E_aload_n dX11_findLens_2 rfl ?_
    refine GX11_7 sk_203 dX11_findLens_3 ?_
    refine E_bipush dX11_findLens_6 ?_
    refine E_iload_n dX11_findLens_8 rfl ?_
    refine E_imul dX11_findLens_9 ?_
    refine E_iconst dX11_findLens_10 ?_
    refine E_iadd dX11_findLens_11 ?_
    refine H_iald sk_204 dX11_findLens_12 ?_
    rw [k5]
    refine E_i2l dX11_findLens_13 ?_
    refine E_lstore dX11_findLens_14 ?_
    refine E_lconst1 dX11_findLens_16 ?_
    refine E_lstore dX11_findLens_17 ?_
    refine E_lconst0 dX11_findLens_19 ?_
    refine E_lstore dX11_findLens_20 ?_
    refine E_aload_n dX11_findLens_22 rfl ?_
    refine E_iload_n dX11_findLens_23 rfl ?_
    refine E_callVR dX11_findLens_24 lkX11_100 (Hp_get sk_203) (hf) ?_
    refine E_if_le 62 dX11_findLens_27 (fun h27 => ?_) (fun h27 => ?_)
    · -- 62
      refine E_aload_n dX11_findLens_62 rfl ?_
      refine E_iload_n dX11_findLens_63 rfl ?_
      refine E_callVR dX11_findLens_64 lkX11_100 (Hp_get sk_203) (hf) ?_
      refine E_iconst dX11_findLens_67 ?_
      refine E_icmp_le 89 dX11_findLens_68 (fun h68 => ?_) (fun h68 => ?_)
      · -- 89
        first | (exfalso; omega) | exact fl_tail (μ := μ) (a := x.1) (b := x.2 + x.1 * sh) (c := z.1) (d := z.2) (by omega) (by omega) (by omega) (by omega) (by rw [Int.gcd_add_mul_left_left, Int.gcd_comm]; exact x5) z5
      · -- 71
        refine E_aload_n dX11_findLens_71 rfl ?_
        refine E_iload_n dX11_findLens_72 rfl ?_
        refine E_iconst dX11_findLens_73 ?_
        refine E_callVR dX11_findLens_74 lkX11_90 (Hp_get sk_203) (hA1) ?_
        refine E_i2l dX11_findLens_77 ?_
        refine E_lstore dX11_findLens_78 ?_
        refine E_aload_n dX11_findLens_80 rfl ?_
        refine E_iload_n dX11_findLens_81 rfl ?_
        refine E_iconst dX11_findLens_82 ?_
        refine E_callVR dX11_findLens_83 lkX11_93 (Hp_get sk_203) (hB1) ?_
        refine E_i2l dX11_findLens_86 ?_
        refine E_lstore dX11_findLens_87 ?_
        first | (exfalso; omega) | exact fl_tail (μ := μ) (a := x.1) (b := x.2 + x.1 * sh) (c := z.1) (d := z.2) (by omega) (by omega) (by omega) (by omega) (by rw [Int.gcd_add_mul_left_left, Int.gcd_comm]; exact x5) z5
    · -- 30
      refine E_aload_n dX11_findLens_30 rfl ?_
      refine E_iload_n dX11_findLens_31 rfl ?_
      refine E_iconst dX11_findLens_32 ?_
      refine E_callVR dX11_findLens_33 lkX11_90 (Hp_get sk_203) (hA0) ?_
      refine E_i2l dX11_findLens_36 ?_
      refine E_lstore_n dX11_findLens_37 ?_
      refine E_aload_n dX11_findLens_38 rfl ?_
      refine E_iload_n dX11_findLens_39 rfl ?_
      refine E_iconst dX11_findLens_40 ?_
      refine E_callVR dX11_findLens_41 lkX11_93 (Hp_get sk_203) (hB0) ?_
      refine E_i2l dX11_findLens_44 ?_
      refine E_lload_n dX11_findLens_45 rfl ?_
      refine E_aload_n dX11_findLens_46 rfl ?_
      refine GX11_7 sk_203 dX11_findLens_47 ?_
      refine E_bipush dX11_findLens_50 ?_
      refine E_iload_n dX11_findLens_52 rfl ?_
      refine E_imul dX11_findLens_53 ?_
      refine E_iconst dX11_findLens_54 ?_
      refine E_iadd dX11_findLens_55 ?_
      refine H_iald sk_204 dX11_findLens_56 ?_
      rw [k5]
      refine E_i2l dX11_findLens_57 ?_
      refine E_lmul dX11_findLens_58 ?_
      refine E_ladd dX11_findLens_59 ?_
      refine E_lstore dX11_findLens_60 ?_
      refine E_aload_n dX11_findLens_62 rfl ?_
      refine E_iload_n dX11_findLens_63 rfl ?_
      refine E_callVR dX11_findLens_64 lkX11_100 (Hp_get sk_203) (hf) ?_
      refine E_iconst dX11_findLens_67 ?_
      refine E_icmp_le 89 dX11_findLens_68 (fun h68 => ?_) (fun h68 => ?_)
      · -- 89
        first | (exfalso; omega) | exact fl_tail (μ := μ) (a := x.1) (b := x.2 + x.1 * sh) (c := z.1) (d := z.2) (by omega) (by omega) (by omega) (by omega) (by rw [Int.gcd_add_mul_left_left, Int.gcd_comm]; exact x5) z5
      · -- 71
        refine E_aload_n dX11_findLens_71 rfl ?_
        refine E_iload_n dX11_findLens_72 rfl ?_
        refine E_iconst dX11_findLens_73 ?_
        refine E_callVR dX11_findLens_74 lkX11_90 (Hp_get sk_203) (hA1) ?_
        refine E_i2l dX11_findLens_77 ?_
        refine E_lstore dX11_findLens_78 ?_
        refine E_aload_n dX11_findLens_80 rfl ?_
        refine E_iload_n dX11_findLens_81 rfl ?_
        refine E_iconst dX11_findLens_82 ?_
        refine E_callVR dX11_findLens_83 lkX11_93 (Hp_get sk_203) (hB1) ?_
        refine E_i2l dX11_findLens_86 ?_
        refine E_lstore dX11_findLens_87 ?_
        first | (exfalso; omega) | exact fl_tail (μ := μ) (a := x.1) (b := x.2 + x.1 * sh) (c := z.1) (d := z.2) (by omega) (by omega) (by omega) (by omega) (by rw [Int.gcd_add_mul_left_left, Int.gcd_comm]; exact x5) z5
theorem m_lens {i w : Int} (hi : -2147483648 ≤ i ∧ i < 2147483648) (hw : -2147483648 ≤ w ∧ w < 2147483648) (hM : RepM μ σ) (hok : stOk σ) : Ctr G mX11_lens [.ref 203, vi i, vi w] (Hp μ) (NL μ (aLens σ i w, σ)) := by
  refine Ctr.of ?_
  have hsi := m_isSpace (G := G) (M := Hp μ) hi
  have hin := m_in (G := G) (M := Hp μ) (v := w) (lo := 0) (hi := 1) (by omega) (by omega) (by omega)
  by_cases q1 : isS i
  · rw [cif_pos q1] at hsi
    have j1 := q1.1
    have j2 := q1.2
    have hn := rn_at q1 hM.1
    have ho := ok_at q1 hok.1
    obtain ⟨o0, o1, o2, o3, o4, o5, o6⟩ := id ho
    by_cases q2 : 0 ≤ w ∧ w ≤ 1
    · rw [cif_pos q2] at hin
      rw [show aLens σ i w = _ from cif_pos ⟨q1, q2⟩]
      by_cases q3 : (σ.1 i.toNat).1 = 0 ∧ (σ.1 i.toNat).2.1 = 0 ∧ (σ.1 i.toNat).2.2.2.length ≤ 2
      · rw [cif_pos q3]
        by_cases q4 : w = 0
        · rw [show lensS (σ.1 i.toNat) w = _ from cif_pos q4]
          refine E_iload_n dX11_lens_0 rfl ?_
          refine E_callSR dX11_lens_1 lkX11_147 (hsi) ?_
          refine E_if_eq 17 dX11_lens_4 (fun h4 => ?_) (fun h4 => ?_)
          · -- 17
            first | exact absurd h4 (by decide) | exact absurd h14 (by decide)
          · -- 7
            refine E_iload_n dX11_lens_7 rfl ?_
            refine E_i2l dX11_lens_8 ?_
            refine E_lconst0 dX11_lens_9 ?_
            refine E_lconst1 dX11_lens_10 ?_
            refine E_callSR dX11_lens_11 lkX11_63 (hin) ?_
            refine E_if_ne 21 dX11_lens_14 (fun h14 => ?_) (fun h14 => ?_)
            · -- 21
              refine E_aload_n dX11_lens_21 rfl ?_
              refine GX11_7 sk_203 dX11_lens_22 ?_
              refine E_bipush dX11_lens_25 ?_
              refine E_iload_n dX11_lens_27 rfl ?_
              refine E_imul dX11_lens_28 ?_
              refine E_iconst dX11_lens_29 ?_
              refine E_iadd dX11_lens_30 ?_
              rw [Int.add_zero]
              refine H_iald sk_204 dX11_lens_31 ?_
              rw [hn.1]
              refine E_if_ne 58 dX11_lens_32 (fun h32 => ?_) (fun h32 => ?_)
              · -- 58
                exfalso; omega
              · -- 35
                refine E_aload_n dX11_lens_35 rfl ?_
                refine GX11_7 sk_203 dX11_lens_36 ?_
                refine E_bipush dX11_lens_39 ?_
                refine E_iload_n dX11_lens_41 rfl ?_
                refine E_imul dX11_lens_42 ?_
                refine E_iconst dX11_lens_43 ?_
                refine E_iadd dX11_lens_44 ?_
                refine H_iald sk_204 dX11_lens_45 ?_
                rw [hn.2.1]
                refine E_if_ne 58 dX11_lens_46 (fun h46 => ?_) (fun h46 => ?_)
                · -- 58
                  exfalso; omega
                · -- 49
                  refine E_aload_n dX11_lens_49 rfl ?_
                  refine E_iload_n dX11_lens_50 rfl ?_
                  refine E_callVR dX11_lens_51 lkX11_100 (Hp_get sk_203) (m_fibres q1 hn) ?_
                  refine E_iconst dX11_lens_54 ?_
                  refine E_icmp_le 62 dX11_lens_55 (fun h55 => ?_) (fun h55 => ?_)
                  · -- 62
                    refine E_aload_n dX11_lens_62 rfl ?_
                    refine E_iload_n dX11_lens_63 rfl ?_
                    refine E_callVV dX11_lens_64 lkX11_303 (Hp_get sk_203) (m_findLens q1 hn ho q3.2.2) ?_
                    rintro μ1 ⟨a1, a2, a3⟩
                    refine E_iload_n dX11_lens_67 rfl ?_
                    refine E_if_ne 78 dX11_lens_68 (fun h68 => ?_) (fun h68 => ?_)
                    · -- 78
                      exact absurd q4 h68
                    · -- 71
                      refine E_aload_n dX11_lens_71 rfl ?_
                      refine GX11_289 sk_203 dX11_lens_72 ?_
                      refine E_goto 82 dX11_lens_75 ?_
                      refine E_lret dX11_lens_82 ?_
                      exact ⟨by rw [a1], _, rfl, hM.off a3.w, a3.lo⟩
                  · -- 58
                    exfalso; omega
            · -- 17
              first | exact absurd h4 (by decide) | exact absurd h14 (by decide)
        · rw [show lensS (σ.1 i.toNat) w = _ from cif_neg q4]
          refine E_iload_n dX11_lens_0 rfl ?_
          refine E_callSR dX11_lens_1 lkX11_147 (hsi) ?_
          refine E_if_eq 17 dX11_lens_4 (fun h4 => ?_) (fun h4 => ?_)
          · -- 17
            first | exact absurd h4 (by decide) | exact absurd h14 (by decide)
          · -- 7
            refine E_iload_n dX11_lens_7 rfl ?_
            refine E_i2l dX11_lens_8 ?_
            refine E_lconst0 dX11_lens_9 ?_
            refine E_lconst1 dX11_lens_10 ?_
            refine E_callSR dX11_lens_11 lkX11_63 (hin) ?_
            refine E_if_ne 21 dX11_lens_14 (fun h14 => ?_) (fun h14 => ?_)
            · -- 21
              refine E_aload_n dX11_lens_21 rfl ?_
              refine GX11_7 sk_203 dX11_lens_22 ?_
              refine E_bipush dX11_lens_25 ?_
              refine E_iload_n dX11_lens_27 rfl ?_
              refine E_imul dX11_lens_28 ?_
              refine E_iconst dX11_lens_29 ?_
              refine E_iadd dX11_lens_30 ?_
              rw [Int.add_zero]
              refine H_iald sk_204 dX11_lens_31 ?_
              rw [hn.1]
              refine E_if_ne 58 dX11_lens_32 (fun h32 => ?_) (fun h32 => ?_)
              · -- 58
                exfalso; omega
              · -- 35
                refine E_aload_n dX11_lens_35 rfl ?_
                refine GX11_7 sk_203 dX11_lens_36 ?_
                refine E_bipush dX11_lens_39 ?_
                refine E_iload_n dX11_lens_41 rfl ?_
                refine E_imul dX11_lens_42 ?_
                refine E_iconst dX11_lens_43 ?_
                refine E_iadd dX11_lens_44 ?_
                refine H_iald sk_204 dX11_lens_45 ?_
                rw [hn.2.1]
                refine E_if_ne 58 dX11_lens_46 (fun h46 => ?_) (fun h46 => ?_)
                · -- 58
                  exfalso; omega
                · -- 49
                  refine E_aload_n dX11_lens_49 rfl ?_
                  refine E_iload_n dX11_lens_50 rfl ?_
                  refine E_callVR dX11_lens_51 lkX11_100 (Hp_get sk_203) (m_fibres q1 hn) ?_
                  refine E_iconst dX11_lens_54 ?_
                  refine E_icmp_le 62 dX11_lens_55 (fun h55 => ?_) (fun h55 => ?_)
                  · -- 62
                    refine E_aload_n dX11_lens_62 rfl ?_
                    refine E_iload_n dX11_lens_63 rfl ?_
                    refine E_callVV dX11_lens_64 lkX11_303 (Hp_get sk_203) (m_findLens q1 hn ho q3.2.2) ?_
                    rintro μ1 ⟨a1, a2, a3⟩
                    refine E_iload_n dX11_lens_67 rfl ?_
                    refine E_if_ne 78 dX11_lens_68 (fun h68 => ?_) (fun h68 => ?_)
                    · -- 78
                      refine E_aload_n dX11_lens_78 rfl ?_
                      refine GX11_292 sk_203 dX11_lens_79 ?_
                      refine E_lret dX11_lens_82 ?_
                      exact ⟨by rw [a2], _, rfl, hM.off a3.w, a3.lo⟩
                    · -- 71
                      exact absurd h68 q4
                  · -- 58
                    exfalso; omega
            · -- 17
              first | exact absurd h4 (by decide) | exact absurd h14 (by decide)
      · rw [cif_neg q3]
        refine E_iload_n dX11_lens_0 rfl ?_
        refine E_callSR dX11_lens_1 lkX11_147 (hsi) ?_
        refine E_if_eq 17 dX11_lens_4 (fun h4 => ?_) (fun h4 => ?_)
        · -- 17
          first | exact absurd h4 (by decide) | exact absurd h14 (by decide)
        · -- 7
          refine E_iload_n dX11_lens_7 rfl ?_
          refine E_i2l dX11_lens_8 ?_
          refine E_lconst0 dX11_lens_9 ?_
          refine E_lconst1 dX11_lens_10 ?_
          refine E_callSR dX11_lens_11 lkX11_63 (hin) ?_
          refine E_if_ne 21 dX11_lens_14 (fun h14 => ?_) (fun h14 => ?_)
          · -- 21
            refine E_aload_n dX11_lens_21 rfl ?_
            refine GX11_7 sk_203 dX11_lens_22 ?_
            refine E_bipush dX11_lens_25 ?_
            refine E_iload_n dX11_lens_27 rfl ?_
            refine E_imul dX11_lens_28 ?_
            refine E_iconst dX11_lens_29 ?_
            refine E_iadd dX11_lens_30 ?_
            rw [Int.add_zero]
            refine H_iald sk_204 dX11_lens_31 ?_
            rw [hn.1]
            refine E_if_ne 58 dX11_lens_32 (fun h32 => ?_) (fun h32 => ?_)
            · -- 58
              refine E_ldc2 dX11_lens_58 coX11_301 ?_
              refine E_lret dX11_lens_61 ?_
              exact ⟨rfl, _, rfl, hM, fun _ _ => rfl⟩
            · -- 35
              refine E_aload_n dX11_lens_35 rfl ?_
              refine GX11_7 sk_203 dX11_lens_36 ?_
              refine E_bipush dX11_lens_39 ?_
              refine E_iload_n dX11_lens_41 rfl ?_
              refine E_imul dX11_lens_42 ?_
              refine E_iconst dX11_lens_43 ?_
              refine E_iadd dX11_lens_44 ?_
              refine H_iald sk_204 dX11_lens_45 ?_
              rw [hn.2.1]
              refine E_if_ne 58 dX11_lens_46 (fun h46 => ?_) (fun h46 => ?_)
              · -- 58
                refine E_ldc2 dX11_lens_58 coX11_301 ?_
                refine E_lret dX11_lens_61 ?_
                exact ⟨rfl, _, rfl, hM, fun _ _ => rfl⟩
              · -- 49
                refine E_aload_n dX11_lens_49 rfl ?_
                refine E_iload_n dX11_lens_50 rfl ?_
                refine E_callVR dX11_lens_51 lkX11_100 (Hp_get sk_203) (m_fibres q1 hn) ?_
                refine E_iconst dX11_lens_54 ?_
                refine E_icmp_le 62 dX11_lens_55 (fun h55 => ?_) (fun h55 => ?_)
                · -- 62
                  exfalso; omega
                · -- 58
                  refine E_ldc2 dX11_lens_58 coX11_301 ?_
                  refine E_lret dX11_lens_61 ?_
                  exact ⟨rfl, _, rfl, hM, fun _ _ => rfl⟩
          · -- 17
            first | exact absurd h4 (by decide) | exact absurd h14 (by decide)
    · rw [cif_neg q2] at hin
      rw [show aLens σ i w = -1 from cif_neg (fun h => q2 h.2)]
      refine E_iload_n dX11_lens_0 rfl ?_
      refine E_callSR dX11_lens_1 lkX11_147 (hsi) ?_
      refine E_if_eq 17 dX11_lens_4 (fun h4 => ?_) (fun h4 => ?_)
      · -- 17
        refine E_ldc2 dX11_lens_17 coX11_229 ?_
        refine E_lret dX11_lens_20 ?_
        exact ⟨rfl, _, rfl, hM, fun _ _ => rfl⟩
      · -- 7
        refine E_iload_n dX11_lens_7 rfl ?_
        refine E_i2l dX11_lens_8 ?_
        refine E_lconst0 dX11_lens_9 ?_
        refine E_lconst1 dX11_lens_10 ?_
        refine E_callSR dX11_lens_11 lkX11_63 (hin) ?_
        refine E_if_ne 21 dX11_lens_14 (fun h14 => ?_) (fun h14 => ?_)
        · -- 21
          exact absurd rfl h14
        · -- 17
          refine E_ldc2 dX11_lens_17 coX11_229 ?_
          refine E_lret dX11_lens_20 ?_
          exact ⟨rfl, _, rfl, hM, fun _ _ => rfl⟩
  · rw [cif_neg q1] at hsi
    rw [show aLens σ i w = -1 from cif_neg (fun h => q1 h.1)]
    refine E_iload_n dX11_lens_0 rfl ?_
    refine E_callSR dX11_lens_1 lkX11_147 (hsi) ?_
    refine E_if_eq 17 dX11_lens_4 (fun h4 => ?_) (fun h4 => ?_)
    · -- 17
      refine E_ldc2 dX11_lens_17 coX11_229 ?_
      refine E_lret dX11_lens_20 ?_
      exact ⟨rfl, _, rfl, hM, fun _ _ => rfl⟩
    · -- 7
      exact absurd rfl h4
end MLENS2
