/-! FibredSpacesModel: text, observations, images, earlier shelves -/
section MSTATE
variable {G : GT} {μ : Mem} {M : HV} {σ : St}
theorem m_type {c : Int} (hc : -2147483648 ≤ c ∧ c < 2147483648) (hM : RepM μ σ) : Ctr G mX11_type [.ref 203, vi c] (Hp μ) (NQ μ (sType σ c)) := by
  refine Ctr.of ?_
  obtain ⟨n1, n2, n3, n4, n5, n6⟩ := id hM
  obtain ⟨x1, x2, x3⟩ := id n4
  have hin := m_in (G := G) (M := Hp μ) (v := c) (lo := 0) (hi := 255) (by omega) (by omega) (by omega)
  by_cases q1 : c < 0 ∨ 255 < c
  · rw [show sType σ c = (-1, σ) from cif_pos q1]
    rw [cif_neg (by omega)] at hin
    refine E_iload_n dX11_type_0 rfl ?_
    refine E_i2l dX11_type_1 ?_
    refine E_lconst0 dX11_type_2 ?_
    refine E_ldc2 dX11_type_3 coX11_108 ?_
    refine E_callSR dX11_type_6 lkX11_63 (hin) ?_
    refine E_if_ne 14 dX11_type_9 (fun h9 => ?_) (fun h9 => ?_)
    · -- 14
      exact absurd rfl h9
    · -- 12
      refine E_iconst dX11_type_12 ?_
      refine E_iret dX11_type_13 ?_
      exact ⟨rfl, _, rfl, hM, fun _ _ => rfl⟩
  · rw [show sType σ c = cif (100 ≤ σ.2.2.2.1.length) (-3, σ) ((σ.2.2.2.1.length : Int) + 1, σ.1, σ.2.1, σ.2.2.1, σ.2.2.2.1 ++ [c], σ.2.2.2.2) from cif_neg q1]
    rw [cif_pos (by omega)] at hin
    by_cases q2 : 100 ≤ σ.2.2.2.1.length
    · rw [cif_pos q2]
      refine E_iload_n dX11_type_0 rfl ?_
      refine E_i2l dX11_type_1 ?_
      refine E_lconst0 dX11_type_2 ?_
      refine E_ldc2 dX11_type_3 coX11_108 ?_
      refine E_callSR dX11_type_6 lkX11_63 (hin) ?_
      refine E_if_ne 14 dX11_type_9 (fun h9 => ?_) (fun h9 => ?_)
      · -- 14
        refine E_aload_n dX11_type_14 rfl ?_
        refine GX11_110 sk_203 dX11_type_15 ?_
        refine E_bipush dX11_type_18 ?_
        refine E_icmp_ne 26 dX11_type_20 (fun h20 => ?_) (fun h20 => ?_)
        · -- 26
          exfalso; omega
        · -- 23
          refine E_bipush dX11_type_23 ?_
          refine E_iret dX11_type_25 ?_
          exact ⟨rfl, _, rfl, hM, fun _ _ => rfl⟩
      · -- 12
        exact absurd h9 (by decide)
    · rw [cif_neg q2]
      refine E_iload_n dX11_type_0 rfl ?_
      refine E_i2l dX11_type_1 ?_
      refine E_lconst0 dX11_type_2 ?_
      refine E_ldc2 dX11_type_3 coX11_108 ?_
      refine E_callSR dX11_type_6 lkX11_63 (hin) ?_
      refine E_if_ne 14 dX11_type_9 (fun h9 => ?_) (fun h9 => ?_)
      · -- 14
        refine E_aload_n dX11_type_14 rfl ?_
        refine GX11_110 sk_203 dX11_type_15 ?_
        refine E_bipush dX11_type_18 ?_
        refine E_icmp_ne 26 dX11_type_20 (fun h20 => ?_) (fun h20 => ?_)
        · -- 26
          refine E_aload_n dX11_type_26 rfl ?_
          refine GX11_29 sk_203 dX11_type_27 ?_
          refine E_aload_n dX11_type_30 rfl ?_
          refine GX11_110 sk_203 dX11_type_31 ?_
          rw [x1]
          refine E_iload_n dX11_type_34 rfl ?_
          refine H_iast sk_210 dX11_type_35 ?_
          refine E_aload_n dX11_type_36 rfl ?_
          refine E_dup dX11_type_37 ?_
          refine GX11_110 sk_203 dX11_type_38 ?_
          rw [up_ne 203 (by decide), x1]
          refine E_iconst dX11_type_41 ?_
          refine E_iadd dX11_type_42 ?_
          refine PX11_110 sk_203 dX11_type_43 ?_
          refine E_aload_n dX11_type_46 rfl ?_
          refine GX11_110 sk_203 dX11_type_47 ?_
          rw [up_r, if_pos rfl]
          refine E_iret dX11_type_50 ?_
          have ef : ∀ j : Int, j ≠ 12 → (up (up μ 210 (σ.2.2.2.1.length : Int) c) 203 12 ((σ.2.2.2.1.length : Int) + 1)) 203 j = μ 203 j := fun j hj => by rw [up_r, if_neg hj, up_ne 203 (by decide)]
          have eq : ∀ q : Nat, q ≠ 203 → q ≠ 210 → (up (up μ 210 (σ.2.2.2.1.length : Int) c) 203 12 ((σ.2.2.2.1.length : Int) + 1)) q = μ q := fun q h1 h2 => by rw [up_ne q h1, up_ne q h2]
          exact ⟨rfl, _, rfl, ⟨n1.kept (eq 204 (by decide) (by decide)), n2.kept (ef 2 (by decide)) (eq 205 (by decide) (by decide)), n3.kept (eq 206 (by decide) (by decide)) (eq 207 (by decide) (by decide)), ⟨by rw [up_r, if_pos rfl]; simp, by simp; omega, (x3.push c).kept (up_ne 210 (by decide))⟩, n5.kept (ef 28 (by decide)) (eq 216 (by decide) (by decide)) (eq 217 (by decide) (by decide)), by rw [eq 215 (by decide) (by decide)]; exact n6⟩, fun q hq => eq q (by omega) (by omega)⟩
        · -- 23
          exfalso; omega
      · -- 12
        exact absurd h9 (by decide)
theorem m_clear (hM : RepM μ σ) : Ctr G mX11_clear [.ref 203] (Hp μ) (NQ μ (sClear σ)) := by
  refine Ctr.of ?_
  obtain ⟨n1, n2, n3, n4, n5, n6⟩ := id hM
  refine E_aload_n dX11_clear_0 rfl ?_
  refine GX11_110 sk_203 dX11_clear_1 ?_
  rw [n4.1]
  refine E_istore_n dX11_clear_4 ?_
  refine E_aload_n dX11_clear_5 rfl ?_
  refine E_iconst dX11_clear_6 ?_
  refine PX11_110 sk_203 dX11_clear_7 ?_
  refine E_iload_n dX11_clear_10 rfl ?_
  refine E_iret dX11_clear_11 ?_
  have ef : ∀ j : Int, j ≠ 12 → (up μ 203 12 0) 203 j = μ 203 j := fun j hj => by rw [up_r, if_neg hj]
  have eq : ∀ q : Nat, q ≠ 203 → (up μ 203 12 0) q = μ q := fun q h1 => up_ne q h1
  exact ⟨rfl, _, rfl, ⟨n1.kept (eq 204 (by decide)), n2.kept (ef 2 (by decide)) (eq 205 (by decide)), n3.kept (eq 206 (by decide)) (eq 207 (by decide)), ⟨by rw [up_r, if_pos rfl]; rfl, by simp [sClear], RepV.nil⟩, n5.kept (ef 28 (by decide)) (eq 216 (by decide)) (eq 217 (by decide)), by rw [eq 215 (by decide)]; exact n6⟩, fun q hq => eq q (by omega)⟩
theorem m_forget (hM : RepM μ σ) : Ctr G mX11_forget [.ref 203] (Hp μ) (NQ μ (sForget σ)) := by
  refine Ctr.of ?_
  obtain ⟨n1, n2, n3, n4, n5, n6⟩ := id hM
  refine E_aload_n dX11_forget_0 rfl ?_
  refine GX11_306 sk_203 dX11_forget_1 ?_
  rw [n5.1]
  refine E_istore_n dX11_forget_4 ?_
  refine E_aload_n dX11_forget_5 rfl ?_
  refine E_iconst dX11_forget_6 ?_
  refine PX11_306 sk_203 dX11_forget_7 ?_
  refine E_iload_n dX11_forget_10 rfl ?_
  refine E_iret dX11_forget_11 ?_
  have ef : ∀ j : Int, j ≠ 28 → (up μ 203 28 0) 203 j = μ 203 j := fun j hj => by rw [up_r, if_neg hj]
  have eq : ∀ q : Nat, q ≠ 203 → (up μ 203 28 0) q = μ q := fun q h1 => up_ne q h1
  exact ⟨rfl, _, rfl, ⟨n1.kept (eq 204 (by decide)), n2.kept (ef 2 (by decide)) (eq 205 (by decide)), n3.kept (eq 206 (by decide)) (eq 207 (by decide)), n4.kept (ef 12 (by decide)) (eq 210 (by decide)), ⟨by rw [up_r, if_pos rfl]; rfl, by simp [sForget], RepV.nil, RepV.nil⟩, by rw [eq 215 (by decide)]; exact n6⟩, fun q hq => eq q (by omega)⟩
theorem m_sees {m v : Int} (hm : -2147483648 ≤ m ∧ m < 2147483648) (hv : -9223372036854775808 ≤ v ∧ v < 9223372036854775808) (hM : RepM μ σ) : Ctr G mX11_sees [.ref 203, vi m, vl v] (Hp μ) (NQ μ (sSees σ m v)) := by
  refine Ctr.of ?_
  obtain ⟨n1, n2, n3, n4, n5, n6⟩ := id hM
  obtain ⟨y1, y2, y3, y4⟩ := id n5
  have hin := m_in (G := G) (M := Hp μ) (v := m) (lo := 2) (hi := 12) (by omega) (by omega) (by omega)
  by_cases q1 : 2 ≤ m ∧ m ≤ 12
  · rw [cif_pos q1] at hin
    by_cases q2 : 0 ≤ v
    · rw [show sSees σ m v = _ from cif_neg (not_not_intro ⟨q1, q2⟩)]
      by_cases q3 : 6 ≤ σ.2.2.2.2.length
      · rw [cif_pos q3]
        refine E_iload_n dX11_sees_0 rfl ?_
        refine E_i2l dX11_sees_1 ?_
        refine E_ldc2 dX11_sees_2 coX11_174 ?_
        refine E_ldc2 dX11_sees_5 coX11_245 ?_
        refine E_callSR dX11_sees_8 lkX11_63 (hin) ?_
        refine E_if_eq 20 dX11_sees_11 (fun h11 => ?_) (fun h11 => ?_)
        · -- 20
          first | exact absurd h11 (by decide) | (exfalso; omega)
        · -- 14
          refine E_lload_n dX11_sees_14 rfl ?_
          refine E_lconst0 dX11_sees_15 ?_
          refine E_lcmp_ge 22 dX11_sees_16 dX11_sees_17 (fun h16 => ?_) (fun h16 => ?_)
          · -- 22
            refine E_aload_n dX11_sees_22 rfl ?_
            refine GX11_306 sk_203 dX11_sees_23 ?_
            refine E_bipush dX11_sees_26 ?_
            refine E_icmp_ne 34 dX11_sees_28 (fun h28 => ?_) (fun h28 => ?_)
            · -- 34
              exfalso; omega
            · -- 31
              refine E_bipush dX11_sees_31 ?_
              refine E_iret dX11_sees_33 ?_
              exact ⟨rfl, _, rfl, hM, fun _ _ => rfl⟩
          · -- 20
            first | exact absurd h11 (by decide) | (exfalso; omega)
      · rw [cif_neg q3]
        refine E_iload_n dX11_sees_0 rfl ?_
        refine E_i2l dX11_sees_1 ?_
        refine E_ldc2 dX11_sees_2 coX11_174 ?_
        refine E_ldc2 dX11_sees_5 coX11_245 ?_
        refine E_callSR dX11_sees_8 lkX11_63 (hin) ?_
        refine E_if_eq 20 dX11_sees_11 (fun h11 => ?_) (fun h11 => ?_)
        · -- 20
          first | exact absurd h11 (by decide) | (exfalso; omega)
        · -- 14
          refine E_lload_n dX11_sees_14 rfl ?_
          refine E_lconst0 dX11_sees_15 ?_
          refine E_lcmp_ge 22 dX11_sees_16 dX11_sees_17 (fun h16 => ?_) (fun h16 => ?_)
          · -- 22
            refine E_aload_n dX11_sees_22 rfl ?_
            refine GX11_306 sk_203 dX11_sees_23 ?_
            refine E_bipush dX11_sees_26 ?_
            refine E_icmp_ne 34 dX11_sees_28 (fun h28 => ?_) (fun h28 => ?_)
            · -- 34
              refine E_aload_n dX11_sees_34 rfl ?_
              refine GX11_48 sk_203 dX11_sees_35 ?_
              refine E_aload_n dX11_sees_38 rfl ?_
              refine GX11_306 sk_203 dX11_sees_39 ?_
              rw [y1]
              refine E_iload_n dX11_sees_42 rfl ?_
              refine H_iast sk_216 dX11_sees_43 ?_
              refine E_aload_n dX11_sees_44 rfl ?_
              refine GX11_51 sk_203 dX11_sees_45 ?_
              refine E_aload_n dX11_sees_48 rfl ?_
              refine GX11_306 sk_203 dX11_sees_49 ?_
              rw [up_ne 203 (by decide), y1]
              refine E_lload_n dX11_sees_52 rfl ?_
              refine H_last sk_217 dX11_sees_53 ?_
              refine E_aload_n dX11_sees_54 rfl ?_
              refine E_dup dX11_sees_55 ?_
              refine GX11_306 sk_203 dX11_sees_56 ?_
              rw [up_ne 203 (by decide), up_ne 203 (by decide), y1]
              refine E_iconst dX11_sees_59 ?_
              refine E_iadd dX11_sees_60 ?_
              refine PX11_306 sk_203 dX11_sees_61 ?_
              refine E_aload_n dX11_sees_64 rfl ?_
              refine GX11_306 sk_203 dX11_sees_65 ?_
              rw [up_r, if_pos rfl]
              refine E_iret dX11_sees_68 ?_
              have ef : ∀ j : Int, j ≠ 28 → (up (up (up μ 216 (σ.2.2.2.2.length : Int) m) 217 (σ.2.2.2.2.length : Int) v) 203 28 ((σ.2.2.2.2.length : Int) + 1)) 203 j = μ 203 j := fun j hj => by rw [up_r, if_neg hj, up_ne 203 (by decide), up_ne 203 (by decide)]
              have eq : ∀ q : Nat, q ≠ 203 → q ≠ 216 → q ≠ 217 → (up (up (up μ 216 (σ.2.2.2.2.length : Int) m) 217 (σ.2.2.2.2.length : Int) v) 203 28 ((σ.2.2.2.2.length : Int) + 1)) q = μ q := fun q h1 h2 h3 => by rw [up_ne q h1, up_ne q h3, up_ne q h2]
              refine ⟨rfl, _, rfl, ⟨n1.kept (eq 204 (by decide) (by decide) (by decide)), n2.kept (ef 2 (by decide)) (eq 205 (by decide) (by decide) (by decide)), n3.kept (eq 206 (by decide) (by decide) (by decide)) (eq 207 (by decide) (by decide) (by decide)), n4.kept (ef 12 (by decide)) (eq 210 (by decide) (by decide) (by decide)), ⟨by rw [up_r, if_pos rfl]; simp, by simp; omega, ?_, ?_⟩, by rw [eq 215 (by decide) (by decide) (by decide)]; exact n6⟩, fun q hq => eq q (by omega) (by omega) (by omega)⟩
              · have t := y3.push m
                rw [List.length_map] at t
                rw [List.map_append]
                exact t.kept (by rw [up_ne 216 (by decide), up_ne 216 (by decide)])
              · have t := (y4.kept (up_ne 217 (by decide)) : RepV (up μ 216 (σ.2.2.2.2.length : Int) m) 217 _).push v
                rw [List.length_map] at t
                rw [List.map_append]
                exact t.kept (up_ne 217 (by decide))
            · -- 31
              exfalso; omega
          · -- 20
            first | exact absurd h11 (by decide) | (exfalso; omega)
    · rw [show sSees σ m v = (-1, σ) from cif_pos (fun h => q2 h.2)]
      refine E_iload_n dX11_sees_0 rfl ?_
      refine E_i2l dX11_sees_1 ?_
      refine E_ldc2 dX11_sees_2 coX11_174 ?_
      refine E_ldc2 dX11_sees_5 coX11_245 ?_
      refine E_callSR dX11_sees_8 lkX11_63 (hin) ?_
      refine E_if_eq 20 dX11_sees_11 (fun h11 => ?_) (fun h11 => ?_)
      · -- 20
        refine E_iconst dX11_sees_20 ?_
        refine E_iret dX11_sees_21 ?_
        exact ⟨rfl, _, rfl, hM, fun _ _ => rfl⟩
      · -- 14
        refine E_lload_n dX11_sees_14 rfl ?_
        refine E_lconst0 dX11_sees_15 ?_
        refine E_lcmp_ge 22 dX11_sees_16 dX11_sees_17 (fun h16 => ?_) (fun h16 => ?_)
        · -- 22
          exfalso; omega
        · -- 20
          refine E_iconst dX11_sees_20 ?_
          refine E_iret dX11_sees_21 ?_
          exact ⟨rfl, _, rfl, hM, fun _ _ => rfl⟩
  · rw [cif_neg q1] at hin
    rw [show sSees σ m v = (-1, σ) from cif_pos (fun h => q1 h.1)]
    refine E_iload_n dX11_sees_0 rfl ?_
    refine E_i2l dX11_sees_1 ?_
    refine E_ldc2 dX11_sees_2 coX11_174 ?_
    refine E_ldc2 dX11_sees_5 coX11_245 ?_
    refine E_callSR dX11_sees_8 lkX11_63 (hin) ?_
    refine E_if_eq 20 dX11_sees_11 (fun h11 => ?_) (fun h11 => ?_)
    · -- 20
      refine E_iconst dX11_sees_20 ?_
      refine E_iret dX11_sees_21 ?_
      exact ⟨rfl, _, rfl, hM, fun _ _ => rfl⟩
    · -- 14
      exact absurd rfl h11
end MSTATE
