/-! FibredSpacesModel: torsion, space -/
section MTORSION
variable {G : GT} {μ : Mem} {M : HV} {σ : St}
theorem or_loop {i : Int} {T : List Int} {P : Mem → Prop} (hT : RowQ μ T) (hl : T.length ≤ 8) (hP : P μ) : ∀ (q p : List Int) (b : Int), p ++ q = T →
    E G mX11_order (Zq G mX11_order (V1 (vl (b * prI q)) P)) 0 0 15 [.ref 203, vi i, vl b, .retAddr 0, vi (p.length : Int)] [] (Hp μ) := by
  obtain ⟨k1, k2⟩ := hT
  intro q
  induction q with
  | nil =>
    intro p b e
    have hpl : p.length = T.length := by rw [← e]; simp
    refine E_iload dX11_order_15 rfl ?_
    refine E_aload_n dX11_order_17 rfl ?_
    refine GX11_214 sk_203 dX11_order_18 ?_
    refine E_icmp_ge 40 dX11_order_21 (fun h21 => ?_) (fun h21 => ?_)
    · -- 40
      refine E_lload_n dX11_order_40 rfl ?_
      refine E_lret dX11_order_41 ?_
      exact ⟨by simp [prI], _, rfl, hP⟩
    · -- 24
      exfalso; omega
  | cons x q ih =>
    intro p b e
    have hpl : p.length + 1 + q.length = T.length := by rw [← e]; simp; omega
    have hv : μ 211 (p.length : Int) = x := k2 p.length x (by rw [← e]; simp)
    have t := ih (p ++ [x]) (b * x) (by rw [← e]; simp)
    rw [show ((p ++ [x]).length : Int) = (p.length : Int) + 1 by simp, Int.mul_assoc] at t
    refine E_iload dX11_order_15 rfl ?_
    refine E_aload_n dX11_order_17 rfl ?_
    refine GX11_214 sk_203 dX11_order_18 ?_
    refine E_icmp_ge 40 dX11_order_21 (fun h21 => ?_) (fun h21 => ?_)
    · -- 40
      exfalso; omega
    · -- 24
      refine E_lload_n dX11_order_24 rfl ?_
      refine E_aload_n dX11_order_25 rfl ?_
      refine GX11_32 sk_203 dX11_order_26 ?_
      refine E_iload dX11_order_29 rfl ?_
      refine H_lald sk_211 dX11_order_31 ?_
      rw [hv]
      refine E_lmul dX11_order_32 ?_
      refine E_lstore_n dX11_order_33 ?_
      refine E_iinc dX11_order_34 rfl ?_
      refine E_goto 15 dX11_order_37 ?_
      exact t
theorem m_order {i : Int} {s : Sp} (hi : isS i) (hs : RepN μ 204 (16 * i) s) (hok : spOk s) (hT : RowQ μ (torC s)) : Ctr G mX11_order [.ref 203, vi i] (Hp μ) (V1 (vl ((if rankC s = 0 then 1 else 0) * prI (torC s))) (fun μ' => OffU μ μ')) := by
  refine Ctr.of ?_
  have hr := rankC_rng hok
  have hl := torC_len hok
  have key : ∀ μ1 : Mem, OffU μ μ1 → RowQ μ1 (torC s) := fun μ1 g => ⟨by rw [g.2 21 (by decide) (by decide)]; exact hT.1, hT.2.kept (g.1 211 (by decide))⟩
  by_cases q : rankC s = 0
  · rw [if_pos q, Int.one_mul]
    refine E_aload_n dX11_order_0 rfl ?_
    refine E_iload_n dX11_order_1 rfl ?_
    refine E_callVW dX11_order_2 lkX11_226 (Hp_get sk_203) (m_rank hi hs hok) ?_
    rintro μ1 g
    refine E_if_le 10 dX11_order_5 (fun h5 => ?_) (fun h5 => ?_)
    · -- 10
      refine E_lconst1 dX11_order_10 ?_
      refine E_lstore_n dX11_order_11 ?_
      refine E_iconst dX11_order_12 ?_
      refine E_istore dX11_order_13 ?_
      have t := or_loop (G := G) (i := i) (P := fun μ' => OffU μ μ') (key μ1 g) hl g (torC s) [] 1 rfl
      rw [Int.one_mul] at t
      exact t
    · -- 8
      exfalso; omega
  · rw [if_neg q, Int.zero_mul]
    refine E_aload_n dX11_order_0 rfl ?_
    refine E_iload_n dX11_order_1 rfl ?_
    refine E_callVW dX11_order_2 lkX11_226 (Hp_get sk_203) (m_rank hi hs hok) ?_
    rintro μ1 g
    refine E_if_le 10 dX11_order_5 (fun h5 => ?_) (fun h5 => ?_)
    · -- 10
      exfalso; omega
    · -- 8
      refine E_lconst0 dX11_order_8 ?_
      refine E_lret dX11_order_9 ?_
      exact ⟨rfl, _, rfl, g⟩
theorem m_torsion {i k : Int} (hi : -2147483648 ≤ i ∧ i < 2147483648) (hk : -2147483648 ≤ k ∧ k < 2147483648) (hM : RepM μ σ) (hok : stOk σ) : Ctr G mX11_torsion [.ref 203, vi i, vi k] (Hp μ) (NL μ (aTorsion σ i k, σ)) := by
  refine Ctr.of ?_
  have hsi := m_isSpace (G := G) (M := Hp μ) hi
  by_cases q1 : isS i
  · rw [cif_pos q1] at hsi
    have hn := rn_at q1 hM.1
    have ho := ok_at q1 hok.1
    have hl := torC_len ho
    by_cases q2 : -1 ≤ k
    · rw [show aTorsion σ i k = _ from cif_pos ⟨q1, q2⟩]
      by_cases q3 : k = -1
      · rw [cif_pos q3]
        refine E_iload_n dX11_torsion_0 rfl ?_
        refine E_callSR dX11_torsion_1 lkX11_147 (hsi) ?_
        refine E_if_eq 12 dX11_torsion_4 (fun h4 => ?_) (fun h4 => ?_)
        · -- 12
          first | exact absurd h4 (by decide) | (exfalso; omega)
        · -- 7
          refine E_iload_n dX11_torsion_7 rfl ?_
          refine E_iconst dX11_torsion_8 ?_
          refine E_icmp_ge 16 dX11_torsion_9 (fun h9 => ?_) (fun h9 => ?_)
          · -- 16
            refine E_aload_n dX11_torsion_16 rfl ?_
            refine E_iload_n dX11_torsion_17 rfl ?_
            refine E_callVV dX11_torsion_18 lkX11_231 (Hp_get sk_203) (m_findRows q1 hn ho) ?_
            rintro μ1 ⟨g1, g2⟩
            refine E_iload_n dX11_torsion_21 rfl ?_
            refine E_if_ge 33 dX11_torsion_22 (fun h22 => ?_) (fun h22 => ?_)
            · -- 33
              exfalso; omega
            · -- 25
              refine E_aload_n dX11_torsion_25 rfl ?_
              refine E_iload_n dX11_torsion_26 rfl ?_
              refine E_callVW dX11_torsion_27 lkX11_234 (Hp_get sk_203) (m_order q1 (hn.kept g2.now) ho g1) ?_
              rintro μ2 g3
              refine E_goto 53 dX11_torsion_30 ?_
              refine E_lret dX11_torsion_53 ?_
              exact ⟨rfl, _, rfl, hM.off (g2.w.tr g3.w), (g2.w.tr g3.w).lo⟩
          · -- 12
            first | exact absurd h4 (by decide) | (exfalso; omega)
      · rw [cif_neg q3]
        by_cases q4 : k < (torC (σ.1 i.toNat)).length
        · rw [cif_pos q4]
          obtain ⟨n, rfl⟩ : ∃ n : Nat, k = n := ⟨k.toNat, by omega⟩
          have hx : (torC (σ.1 i.toNat))[n]? = some ((torC (σ.1 i.toNat)).getD n 0) := by
            rw [List.getD_eq_getElem?_getD, List.getElem?_eq_getElem (by omega)]; rfl
          rw [show ((n : Nat) : Int).toNat = n by omega]
          refine E_iload_n dX11_torsion_0 rfl ?_
          refine E_callSR dX11_torsion_1 lkX11_147 (hsi) ?_
          refine E_if_eq 12 dX11_torsion_4 (fun h4 => ?_) (fun h4 => ?_)
          · -- 12
            first | exact absurd h4 (by decide) | (exfalso; omega)
          · -- 7
            refine E_iload_n dX11_torsion_7 rfl ?_
            refine E_iconst dX11_torsion_8 ?_
            refine E_icmp_ge 16 dX11_torsion_9 (fun h9 => ?_) (fun h9 => ?_)
            · -- 16
              refine E_aload_n dX11_torsion_16 rfl ?_
              refine E_iload_n dX11_torsion_17 rfl ?_
              refine E_callVV dX11_torsion_18 lkX11_231 (Hp_get sk_203) (m_findRows q1 hn ho) ?_
              rintro μ1 ⟨g1, g2⟩
              refine E_iload_n dX11_torsion_21 rfl ?_
              refine E_if_ge 33 dX11_torsion_22 (fun h22 => ?_) (fun h22 => ?_)
              · -- 33
                refine E_iload_n dX11_torsion_33 rfl ?_
                refine E_aload_n dX11_torsion_34 rfl ?_
                refine GX11_214 sk_203 dX11_torsion_35 ?_
                rw [g1.1]
                refine E_icmp_ge 50 dX11_torsion_38 (fun h38 => ?_) (fun h38 => ?_)
                · -- 50
                  exfalso; omega
                · -- 41
                  refine E_aload_n dX11_torsion_41 rfl ?_
                  refine GX11_32 sk_203 dX11_torsion_42 ?_
                  refine E_iload_n dX11_torsion_45 rfl ?_
                  refine H_lald sk_211 dX11_torsion_46 ?_
                  rw [g1.2 n _ hx]
                  refine E_goto 53 dX11_torsion_47 ?_
                  refine E_lret dX11_torsion_53 ?_
                  exact ⟨rfl, _, rfl, hM.off g2.w, g2.w.lo⟩
              · -- 25
                exfalso; omega
            · -- 12
              first | exact absurd h4 (by decide) | (exfalso; omega)
        · rw [cif_neg q4]
          refine E_iload_n dX11_torsion_0 rfl ?_
          refine E_callSR dX11_torsion_1 lkX11_147 (hsi) ?_
          refine E_if_eq 12 dX11_torsion_4 (fun h4 => ?_) (fun h4 => ?_)
          · -- 12
            first | exact absurd h4 (by decide) | (exfalso; omega)
          · -- 7
            refine E_iload_n dX11_torsion_7 rfl ?_
            refine E_iconst dX11_torsion_8 ?_
            refine E_icmp_ge 16 dX11_torsion_9 (fun h9 => ?_) (fun h9 => ?_)
            · -- 16
              refine E_aload_n dX11_torsion_16 rfl ?_
              refine E_iload_n dX11_torsion_17 rfl ?_
              refine E_callVV dX11_torsion_18 lkX11_231 (Hp_get sk_203) (m_findRows q1 hn ho) ?_
              rintro μ1 ⟨g1, g2⟩
              refine E_iload_n dX11_torsion_21 rfl ?_
              refine E_if_ge 33 dX11_torsion_22 (fun h22 => ?_) (fun h22 => ?_)
              · -- 33
                refine E_iload_n dX11_torsion_33 rfl ?_
                refine E_aload_n dX11_torsion_34 rfl ?_
                refine GX11_214 sk_203 dX11_torsion_35 ?_
                rw [g1.1]
                refine E_icmp_ge 50 dX11_torsion_38 (fun h38 => ?_) (fun h38 => ?_)
                · -- 50
                  refine E_ldc2 dX11_torsion_50 coX11_238 ?_
                  refine E_lret dX11_torsion_53 ?_
                  exact ⟨rfl, _, rfl, hM.off g2.w, g2.w.lo⟩
                · -- 41
                  exfalso; omega
              · -- 25
                exfalso; omega
            · -- 12
              first | exact absurd h4 (by decide) | (exfalso; omega)
    · rw [show aTorsion σ i k = -1 from cif_neg (fun h => q2 h.2)]
      refine E_iload_n dX11_torsion_0 rfl ?_
      refine E_callSR dX11_torsion_1 lkX11_147 (hsi) ?_
      refine E_if_eq 12 dX11_torsion_4 (fun h4 => ?_) (fun h4 => ?_)
      · -- 12
        refine E_ldc2 dX11_torsion_12 coX11_229 ?_
        refine E_lret dX11_torsion_15 ?_
        exact ⟨rfl, _, rfl, hM, fun _ _ => rfl⟩
      · -- 7
        refine E_iload_n dX11_torsion_7 rfl ?_
        refine E_iconst dX11_torsion_8 ?_
        refine E_icmp_ge 16 dX11_torsion_9 (fun h9 => ?_) (fun h9 => ?_)
        · -- 16
          exfalso; omega
        · -- 12
          refine E_ldc2 dX11_torsion_12 coX11_229 ?_
          refine E_lret dX11_torsion_15 ?_
          exact ⟨rfl, _, rfl, hM, fun _ _ => rfl⟩
  · rw [cif_neg q1] at hsi
    rw [show aTorsion σ i k = -1 from cif_neg (fun h => q1 h.1)]
    refine E_iload_n dX11_torsion_0 rfl ?_
    refine E_callSR dX11_torsion_1 lkX11_147 (hsi) ?_
    refine E_if_eq 12 dX11_torsion_4 (fun h4 => ?_) (fun h4 => ?_)
    · -- 12
      refine E_ldc2 dX11_torsion_12 coX11_229 ?_
      refine E_lret dX11_torsion_15 ?_
      exact ⟨rfl, _, rfl, hM, fun _ _ => rfl⟩
    · -- 7
      exact absurd rfl h4
theorem m_space {i w : Int} (hi : -2147483648 ≤ i ∧ i < 2147483648) (hw : -2147483648 ≤ w ∧ w < 2147483648) (hM : RepM μ σ) (hok : stOk σ) : Ctr G mX11_space [.ref 203, vi i, vi w] (Hp μ) (NL μ (aSpace σ i w, σ)) := by
  refine Ctr.of ?_
  have hsi := m_isSpace (G := G) (M := Hp μ) hi
  have hin := m_in (G := G) (M := Hp μ) (v := w) (lo := 0) (hi := 6) (by omega) (by omega) (by omega)
  by_cases q1 : isS i
  · rw [cif_pos q1] at hsi
    rw [show aSpace σ i w = _ from cif_pos q1]
    have j1 := q1.1
    have j2 := q1.2
    have hn := rn_at q1 hM.1
    have ho := ok_at q1 hok.1
    have hl := torC_len ho
    have hr := rankC_rng ho
    obtain ⟨o0, o1, o2, o3, o4, o5, o6⟩ := id ho
    have hgr : 0 ≤ geoS (σ.1 i.toNat) ∧ geoS (σ.1 i.toNat) ≤ 5 := by
      unfold geoS
      rcases Int.lt_trichotomy (cT (σ.1 i.toNat)) 0 with h | h | h
      · rw [Int.sign_eq_neg_one_of_neg h]; split <;> omega
      · rw [h, Int.sign_zero]; split <;> omega
      · rw [Int.sign_eq_one_of_pos h]; split <;> omega
    by_cases q2 : 0 ≤ w ∧ w ≤ 6
    · rw [cif_pos q2] at hin
      by_cases q3 : w < 4
      · have hv : μ 204 (16 * i + w) = spaceS (σ.1 i.toNat) w ∧ -1000 ≤ spaceS (σ.1 i.toNat) w ∧ spaceS (σ.1 i.toNat) w ≤ 1000 := by
          rcases (show w = 0 ∨ w = 1 ∨ w = 2 ∨ w = 3 by omega) with rfl | rfl | rfl | rfl
          · rw [show spaceS (σ.1 i.toNat) 0 = _ from cif_pos rfl, Int.add_zero]; exact ⟨hn.1, by omega, by omega⟩
          · rw [show spaceS (σ.1 i.toNat) 1 = _ from cif_neg (by decide), cif_pos rfl]; exact ⟨hn.2.1, by omega, by omega⟩
          · rw [show spaceS (σ.1 i.toNat) 2 = _ from cif_neg (by decide), cif_neg (by decide), cif_pos rfl]; exact ⟨hn.2.2.1, by omega, by omega⟩
          · rw [show spaceS (σ.1 i.toNat) 3 = _ from cif_neg (by decide), cif_neg (by decide), cif_neg (by decide), cif_pos rfl]; exact ⟨hn.2.2.2.1, by omega, by omega⟩
        refine E_iload_n dX11_space_0 rfl ?_
        refine E_callSR dX11_space_1 lkX11_147 (hsi) ?_
        refine E_if_eq 19 dX11_space_4 (fun h4 => ?_) (fun h4 => ?_)
        · -- 19
          first | exact absurd h4 (by decide) | exact absurd h16 (by decide)
        · -- 7
          refine E_iload_n dX11_space_7 rfl ?_
          refine E_i2l dX11_space_8 ?_
          refine E_lconst0 dX11_space_9 ?_
          refine E_ldc2 dX11_space_10 coX11_240 ?_
          refine E_callSR dX11_space_13 lkX11_63 (hin) ?_
          refine E_if_ne 23 dX11_space_16 (fun h16 => ?_) (fun h16 => ?_)
          · -- 23
            refine E_iload_n dX11_space_23 rfl ?_
            refine E_iconst dX11_space_24 ?_
            refine E_icmp_ge 41 dX11_space_25 (fun h25 => ?_) (fun h25 => ?_)
            · -- 41
              exfalso; omega
            · -- 28
              refine E_aload_n dX11_space_28 rfl ?_
              refine GX11_7 sk_203 dX11_space_29 ?_
              refine E_bipush dX11_space_32 ?_
              refine E_iload_n dX11_space_34 rfl ?_
              refine E_imul dX11_space_35 ?_
              refine E_iload_n dX11_space_36 rfl ?_
              refine E_iadd dX11_space_37 ?_
              refine H_iald sk_204 dX11_space_38 ?_
              rw [hv.1]
              refine E_i2l dX11_space_39 ?_
              refine E_lret dX11_space_40 ?_
              exact ⟨rfl, _, rfl, hM, fun _ _ => rfl⟩
          · -- 19
            first | exact absurd h4 (by decide) | exact absurd h16 (by decide)
      · rcases (show w = 4 ∨ w = 5 ∨ w = 6 by omega) with rfl | rfl | rfl
        · rw [show spaceS (σ.1 i.toNat) 4 = rankC (σ.1 i.toNat) by unfold spaceS; rw [cif_neg (by decide), cif_neg (by decide), cif_neg (by decide), cif_neg (by decide), cif_pos rfl]]
          refine E_iload_n dX11_space_0 rfl ?_
          refine E_callSR dX11_space_1 lkX11_147 (hsi) ?_
          refine E_if_eq 19 dX11_space_4 (fun h4 => ?_) (fun h4 => ?_)
          · -- 19
            first | exact absurd h4 (by decide) | exact absurd h16 (by decide)
          · -- 7
            refine E_iload_n dX11_space_7 rfl ?_
            refine E_i2l dX11_space_8 ?_
            refine E_lconst0 dX11_space_9 ?_
            refine E_ldc2 dX11_space_10 coX11_240 ?_
            refine E_callSR dX11_space_13 lkX11_63 (hin) ?_
            refine E_if_ne 23 dX11_space_16 (fun h16 => ?_) (fun h16 => ?_)
            · -- 23
              refine E_iload_n dX11_space_23 rfl ?_
              refine E_iconst dX11_space_24 ?_
              refine E_icmp_ge 41 dX11_space_25 (fun h25 => ?_) (fun h25 => ?_)
              · -- 41
                refine E_iload_n dX11_space_41 rfl ?_
                refine E_iconst dX11_space_42 ?_
                refine E_icmp_ne 57 dX11_space_43 (fun h43 => ?_) (fun h43 => ?_)
                · -- 57
                  refine E_iload_n dX11_space_57 rfl ?_
                  refine E_iconst dX11_space_58 ?_
                  refine E_icmp_ne 71 dX11_space_59 (fun h59 => ?_) (fun h59 => ?_)
                  · -- 71
                    exact absurd rfl h59
                  · -- 62
                    refine E_aload_n dX11_space_62 rfl ?_
                    refine E_iload_n dX11_space_63 rfl ?_
                    refine E_callVW dX11_space_64 lkX11_226 (Hp_get sk_203) (m_rank q1 hn ho) ?_
                    rintro μ1 g
                    refine E_i2l dX11_space_67 ?_
                    refine E_goto 77 dX11_space_68 ?_
                    refine E_lret dX11_space_77 ?_
                    exact ⟨rfl, _, rfl, hM.off g.w, g.w.lo⟩
                · -- 46
                  exact absurd h43 (by decide)
              · -- 28
                exfalso; omega
            · -- 19
              first | exact absurd h4 (by decide) | exact absurd h16 (by decide)
        · rw [show spaceS (σ.1 i.toNat) 5 = (torC (σ.1 i.toNat)).length by unfold spaceS; rw [cif_neg (by decide), cif_neg (by decide), cif_neg (by decide), cif_neg (by decide), cif_neg (by decide), cif_pos rfl]]
          refine E_iload_n dX11_space_0 rfl ?_
          refine E_callSR dX11_space_1 lkX11_147 (hsi) ?_
          refine E_if_eq 19 dX11_space_4 (fun h4 => ?_) (fun h4 => ?_)
          · -- 19
            first | exact absurd h4 (by decide) | exact absurd h16 (by decide)
          · -- 7
            refine E_iload_n dX11_space_7 rfl ?_
            refine E_i2l dX11_space_8 ?_
            refine E_lconst0 dX11_space_9 ?_
            refine E_ldc2 dX11_space_10 coX11_240 ?_
            refine E_callSR dX11_space_13 lkX11_63 (hin) ?_
            refine E_if_ne 23 dX11_space_16 (fun h16 => ?_) (fun h16 => ?_)
            · -- 23
              refine E_iload_n dX11_space_23 rfl ?_
              refine E_iconst dX11_space_24 ?_
              refine E_icmp_ge 41 dX11_space_25 (fun h25 => ?_) (fun h25 => ?_)
              · -- 41
                refine E_iload_n dX11_space_41 rfl ?_
                refine E_iconst dX11_space_42 ?_
                refine E_icmp_ne 57 dX11_space_43 (fun h43 => ?_) (fun h43 => ?_)
                · -- 57
                  exact absurd rfl h43
                · -- 46
                  refine E_aload_n dX11_space_46 rfl ?_
                  refine E_iload_n dX11_space_47 rfl ?_
                  refine E_callVV dX11_space_48 lkX11_231 (Hp_get sk_203) (m_findRows q1 hn ho) ?_
                  rintro μ1 ⟨g1, g2⟩
                  refine E_aload_n dX11_space_51 rfl ?_
                  refine GX11_214 sk_203 dX11_space_52 ?_
                  rw [g1.1]
                  refine E_i2l dX11_space_55 ?_
                  refine E_lret dX11_space_56 ?_
                  exact ⟨rfl, _, rfl, hM.off g2.w, g2.w.lo⟩
              · -- 28
                exfalso; omega
            · -- 19
              first | exact absurd h4 (by decide) | exact absurd h16 (by decide)
        · rw [show spaceS (σ.1 i.toNat) 6 = geoS (σ.1 i.toNat) by unfold spaceS; rw [cif_neg (by decide), cif_neg (by decide), cif_neg (by decide), cif_neg (by decide), cif_neg (by decide), cif_neg (by decide), cif_pos rfl]]
          refine E_iload_n dX11_space_0 rfl ?_
          refine E_callSR dX11_space_1 lkX11_147 (hsi) ?_
          refine E_if_eq 19 dX11_space_4 (fun h4 => ?_) (fun h4 => ?_)
          · -- 19
            first | exact absurd h4 (by decide) | exact absurd h16 (by decide)
          · -- 7
            refine E_iload_n dX11_space_7 rfl ?_
            refine E_i2l dX11_space_8 ?_
            refine E_lconst0 dX11_space_9 ?_
            refine E_ldc2 dX11_space_10 coX11_240 ?_
            refine E_callSR dX11_space_13 lkX11_63 (hin) ?_
            refine E_if_ne 23 dX11_space_16 (fun h16 => ?_) (fun h16 => ?_)
            · -- 23
              refine E_iload_n dX11_space_23 rfl ?_
              refine E_iconst dX11_space_24 ?_
              refine E_icmp_ge 41 dX11_space_25 (fun h25 => ?_) (fun h25 => ?_)
              · -- 41
                refine E_iload_n dX11_space_41 rfl ?_
                refine E_iconst dX11_space_42 ?_
                refine E_icmp_ne 57 dX11_space_43 (fun h43 => ?_) (fun h43 => ?_)
                · -- 57
                  refine E_iload_n dX11_space_57 rfl ?_
                  refine E_iconst dX11_space_58 ?_
                  refine E_icmp_ne 71 dX11_space_59 (fun h59 => ?_) (fun h59 => ?_)
                  · -- 71
                    refine E_aload_n dX11_space_71 rfl ?_
                    refine E_iload_n dX11_space_72 rfl ?_
                    refine E_callVW dX11_space_73 lkX11_242 (Hp_get sk_203) (m_geometry q1 hn ho) ?_
                    rintro μ1 g
                    refine E_i2l dX11_space_76 ?_
                    refine E_lret dX11_space_77 ?_
                    exact ⟨rfl, _, rfl, hM.off g.w, g.w.lo⟩
                  · -- 62
                    exact absurd h59 (by decide)
                · -- 46
                  exact absurd h43 (by decide)
              · -- 28
                exfalso; omega
            · -- 19
              first | exact absurd h4 (by decide) | exact absurd h16 (by decide)
    · rw [cif_neg q2] at hin
      rw [show spaceS (σ.1 i.toNat) w = NOc by unfold spaceS; rw [cif_neg (by omega), cif_neg (by omega), cif_neg (by omega), cif_neg (by omega), cif_neg (by omega), cif_neg (by omega), cif_neg (by omega)]]
      refine E_iload_n dX11_space_0 rfl ?_
      refine E_callSR dX11_space_1 lkX11_147 (hsi) ?_
      refine E_if_eq 19 dX11_space_4 (fun h4 => ?_) (fun h4 => ?_)
      · -- 19
        refine E_ldc2 dX11_space_19 coX11_193 ?_
        refine E_lret dX11_space_22 ?_
        exact ⟨rfl, _, rfl, hM, fun _ _ => rfl⟩
      · -- 7
        refine E_iload_n dX11_space_7 rfl ?_
        refine E_i2l dX11_space_8 ?_
        refine E_lconst0 dX11_space_9 ?_
        refine E_ldc2 dX11_space_10 coX11_240 ?_
        refine E_callSR dX11_space_13 lkX11_63 (hin) ?_
        refine E_if_ne 23 dX11_space_16 (fun h16 => ?_) (fun h16 => ?_)
        · -- 23
          exact absurd rfl h16
        · -- 19
          refine E_ldc2 dX11_space_19 coX11_193 ?_
          refine E_lret dX11_space_22 ?_
          exact ⟨rfl, _, rfl, hM, fun _ _ => rfl⟩
  · rw [cif_neg q1] at hsi
    rw [show aSpace σ i w = NOc from cif_neg q1]
    refine E_iload_n dX11_space_0 rfl ?_
    refine E_callSR dX11_space_1 lkX11_147 (hsi) ?_
    refine E_if_eq 19 dX11_space_4 (fun h4 => ?_) (fun h4 => ?_)
    · -- 19
      refine E_ldc2 dX11_space_19 coX11_193 ?_
      refine E_lret dX11_space_22 ?_
      exact ⟨rfl, _, rfl, hM, fun _ _ => rfl⟩
    · -- 7
      exact absurd rfl h4
end MTORSION
