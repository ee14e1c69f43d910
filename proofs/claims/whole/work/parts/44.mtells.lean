/-! FibredSpacesModel: tells -/
section MTELLS
variable {G : GT} {μ : Mem} {M : HV} {σ : St} {t : List Int}
theorem MTk.ok {r : List Int} (h : MTk μ t r) (hx : txOk t) : txOk r := by
  obtain ⟨-, -, -, -, -, -, a, ha⟩ := h
  exact suf_ok ha hx
theorem MTk.kept {μ' : Mem} {r : List Int} (h : MTk μ t r) (h1 : ∀ j : Int, 13 ≤ j → j ≤ 16 → μ' 203 j = μ 203 j) : MTk μ' t r := by
  obtain ⟨a1, a2, a3, a4, a5, a6, a7⟩ := h
  exact ⟨by rw [h1 13 (by omega) (by omega)]; exact a1, by rw [h1 14 (by omega) (by omega)]; exact a2, by rw [h1 15 (by omega) (by omega)]; exact a3, by rw [h1 16 (by omega) (by omega)]; exact a4, by rw [h1 16 (by omega) (by omega)]; exact a5, fun q => by rw [h1 16 (by omega) (by omega)]; exact a6 q, a7⟩
theorem OffW.x {μ' : Mem} (h : OffW μ μ') (hX : RepX μ t) : RepX μ' t := hX.kept (h.2 12 (by omega)) (h.1 210 (by decide) (by decide) (by decide) (by decide) (by decide) (by decide) (by decide) (by decide))
theorem OffW.lo {μ' : Mem} (h : OffW μ μ') : ∀ q : Nat, q < 203 → μ' q = μ q := fun q hq => h.1 q (by omega) (by omega) (by omega) (by omega) (by omega) (by omega) (by omega) (by omega)
theorem OffW.fld {μ1 : Mem} {j x : Int} (h : OffW μ μ1) (hj : j ≠ 2 ∧ j ≠ 12 ∧ j ≠ 28) : OffW μ (up μ1 203 j x) := ⟨fun q a b c d e f g k => by rw [up_ne q a]; exact h.1 q a b c d e f g k, fun i hi => by rw [up_r, if_neg (by omega)]; exact h.2 i hi⟩
theorem must_1 {r : List Int} (hX : RepX μ t) (hx : txOk t) (hS : MTk μ t r) (hf : μ 203 17 = -9) : Ctr G mX11_must [.ref 203, vi 1] (Hp μ) (V0 (fun μ' => MTk μ' t (nxt r) ∧ OffK μ μ')) := by
  refine Ctr.of ?_
  refine E_aload_n dX11_must_0 rfl ?_
  refine GX11_129 sk_203 dX11_must_1 ?_
  rw [hf]
  refine E_bipush dX11_must_4 ?_
  refine E_icmp_ne 28 dX11_must_6 (fun h6 => ?_) (fun h6 => ?_)
  · -- 28
    refine E_vret dX11_must_28 ?_
    first | (exfalso; omega) | exact ⟨rfl, _, rfl, a1, a2⟩
  · -- 9
    refine E_iload_n dX11_must_9 rfl ?_
    refine E_if_eq 20 dX11_must_10 (fun h10 => ?_) (fun h10 => ?_)
    · -- 20
      exfalso; omega
    · -- 13
      refine E_aload_n dX11_must_13 rfl ?_
      refine E_callVV dX11_must_14 lkX11_132 (Hp_get sk_203) (m_next hX hx hS) ?_
      rintro μ1 ⟨a1, a2⟩
      refine E_goto 28 dX11_must_17 ?_
      refine E_vret dX11_must_28 ?_
      first | (exfalso; omega) | exact ⟨rfl, _, rfl, a1, a2⟩
theorem must_0 (hf : μ 203 17 = -9) : Ctr G mX11_must [.ref 203, vi 0] (Hp μ) (R0 (Hp (up μ 203 17 (μ 203 14)))) := by
  refine Ctr.of ?_
  refine E_aload_n dX11_must_0 rfl ?_
  refine GX11_129 sk_203 dX11_must_1 ?_
  rw [hf]
  refine E_bipush dX11_must_4 ?_
  refine E_icmp_ne 28 dX11_must_6 (fun h6 => ?_) (fun h6 => ?_)
  · -- 28
    refine E_vret dX11_must_28 ?_
    first | (exfalso; omega) | exact ⟨rfl, rfl⟩
  · -- 9
    refine E_iload_n dX11_must_9 rfl ?_
    refine E_if_eq 20 dX11_must_10 (fun h10 => ?_) (fun h10 => ?_)
    · -- 20
      refine E_aload_n dX11_must_20 rfl ?_
      refine E_aload_n dX11_must_21 rfl ?_
      refine GX11_116 sk_203 dX11_must_22 ?_
      refine PX11_129 sk_203 dX11_must_25 ?_
      refine E_vret dX11_must_28 ?_
      first | (exfalso; omega) | exact ⟨rfl, rfl⟩
    · -- 13
      exfalso; omega
theorem must_x {b : Int} (hf : μ 203 17 ≠ -9) (hr : -1000 ≤ μ 203 17 ∧ μ 203 17 ≤ 1000) : Ctr G mX11_must [.ref 203, vi b] (Hp μ) (R0 (Hp μ)) := by
  refine Ctr.of ?_
  refine E_aload_n dX11_must_0 rfl ?_
  refine GX11_129 sk_203 dX11_must_1 ?_
  refine E_bipush dX11_must_4 ?_
  refine E_icmp_ne 28 dX11_must_6 (fun h6 => ?_) (fun h6 => ?_)
  · -- 28
    refine E_vret dX11_must_28 ?_
    exact ⟨rfl, rfl⟩
  · -- 9
    exfalso; omega
/-- a token that must be a number from lo to hi (at most 99) -/
theorem tk_in {r : List Int} (hS : MTk μ t r) (hx : txOk t) : (tkK r = 256 ∧ tkV r ≤ 99 ∧ μ 203 15 = 1 ∧ μ 203 16 = tkV r) ∨ (¬ (tkK r = 256 ∧ tkV r ≤ 99) ∧ μ 203 15 ≠ 1) := by
  obtain ⟨a1, a2, a3, a4, a5, a6, a7⟩ := id hS
  have h1 := modT_1 (hS.ok hx)
  by_cases q : tkK r = 256 ∧ tkV r ≤ 99
  · exact Or.inl ⟨q.1, q.2, by rw [a3]; exact h1.mpr q, a6 (h1.mpr q)⟩
  · exact Or.inr ⟨q, fun h => q (h1.mp (by rw [← a3]; exact h))⟩
def MBase (μ : Mem) (t r : List Int) (d : Sp) : Mem → Prop := fun μ' => OffW μ μ' ∧ ((okB r ∧ MTk μ' t (nxt (nxt r)) ∧ μ' 203 17 = -9 ∧ RepB μ' (kB r, tkV (nxt r), d.2.2.1, d.2.2.2)) ∨ (¬ okB r ∧ μ' 203 17 = (t.length : Int) - (nxt r).length))
theorem m_readBase {r : List Int} {d : Sp} (hX : RepX μ t) (hx : txOk t) (hS : MTk μ t r) (hf : μ 203 17 = -9) (hB : RepB μ d) (hk : tkK r = 111 ∨ tkK r = 110) : Ctr G mX11_readBase [.ref 203] (Hp μ) (V0 (MBase μ t r d)) := by
  refine Ctr.of ?_
  have hm1 := modT_c (c := 111) (hS.ok hx) (Or.inl rfl)
  have hmr := modT_rng (hS.ok hx)
  have h15 := hS.2.2.1
  have hn := tkV_rng (nxt r)
  have fin : ∀ μ1 : Mem, MTk μ1 t (nxt r) → OffK (up μ 203 5 (kB r)) μ1 → E G mX11_readBase (Zq G mX11_readBase (V0 (MBase μ t r d))) 0 0 22 [.ref 203] [] (Hp μ1) := by
    intro μ1 a1 a2
    have hkb : kB r = 0 ∨ kB r = 1 := by unfold kB; split <;> simp
    have e5 : μ1 203 5 = kB r := by rw [a2.2 5 (by omega), up_r, if_pos rfl]
    have e17 : μ1 203 17 = -9 := by rw [a2.2 17 (by omega), up_r, if_neg (by omega)]; exact hf
    have ho : OffW μ (up μ1 203 6 (μ1 203 16)) := ((OffW.rf.fld (j := 5) (by omega)).tr a2.w).fld (by omega)
    have hS2 : MTk (up μ1 203 6 (μ1 203 16)) t (nxt r) := a1.kept (fun j j1 j2 => by rw [up_r, if_neg (by omega)])
    have v0 := a1.2.2.2.1
    have v1 := a1.2.2.2.2.1
    have e15 : (up μ1 203 6 (μ1 203 16)) 203 15 = μ1 203 15 := by rw [up_r, if_neg (by omega)]
    have e16 : (up μ1 203 6 (μ1 203 16)) 203 16 = μ1 203 16 := by rw [up_r, if_neg (by omega)]
    have e5' : (up μ1 203 6 (μ1 203 16)) 203 5 = kB r := by rw [up_r, if_neg (by omega)]; exact e5
    have e17' : (up μ1 203 6 (μ1 203 16)) 203 17 = -9 := by rw [up_r, if_neg (by omega)]; exact e17
    have e14' : (up μ1 203 6 (μ1 203 16)) 203 14 = (t.length : Int) - (nxt r).length := by rw [up_r, if_neg (by omega)]; exact a1.2.1
    have tr := modT_rng (a1.ok hx)
    have tq := a1.2.2.1
    have no : ¬ okB r → V0 (MBase μ t r d) none (Hp (up (up μ1 203 6 (μ1 203 16)) 203 17 ((up μ1 203 6 (μ1 203 16)) 203 14))) := fun h => ⟨rfl, _, rfl, ho.fld (by omega), Or.inr ⟨h, by rw [up_r, if_pos rfl]; exact e14'⟩⟩
    rcases tk_in a1 hx with ⟨q1, q2, q3, q4⟩ | ⟨q1, q2⟩
    · have hin := m_in (G := G) (M := Hp (up μ1 203 6 (μ1 203 16))) (v := μ1 203 16) (lo := kB r) (hi := 4) (by omega) (by omega) (by omega)
      by_cases q5 : kB r ≤ μ1 203 16 ∧ μ1 203 16 ≤ 4
      · rw [cif_pos q5] at hin
        have hok : okB r := ⟨q1, by omega, by omega⟩
        refine E_aload_n dX11_readBase_22 rfl ?_
        refine E_aload_n dX11_readBase_23 rfl ?_
        refine GX11_119 sk_203 dX11_readBase_24 ?_
        refine PX11_70 sk_203 dX11_readBase_27 ?_
        refine E_aload_n dX11_readBase_30 rfl ?_
        refine E_aload_n dX11_readBase_31 rfl ?_
        refine GX11_122 sk_203 dX11_readBase_32 ?_
        rw [e15, q3]
        refine E_iconst dX11_readBase_35 ?_
        refine E_icmp_ne 62 dX11_readBase_36 (fun h36 => ?_) (fun h36 => ?_)
        · -- 62
          first | exact absurd rfl h36 | exact absurd h55 (by decide)
        · -- 39
          refine E_aload_n dX11_readBase_39 rfl ?_
          refine GX11_119 sk_203 dX11_readBase_40 ?_
          rw [e16]
          refine E_i2l dX11_readBase_43 ?_
          refine E_aload_n dX11_readBase_44 rfl ?_
          refine GX11_67 sk_203 dX11_readBase_45 ?_
          rw [e5']
          refine E_i2l dX11_readBase_48 ?_
          refine E_ldc2 dX11_readBase_49 coX11_135 ?_
          refine E_callSR dX11_readBase_52 lkX11_63 (hin) ?_
          refine E_if_eq 62 dX11_readBase_55 (fun h55 => ?_) (fun h55 => ?_)
          · -- 62
            first | exact absurd rfl h36 | exact absurd h55 (by decide)
          · -- 58
            refine E_iconst dX11_readBase_58 ?_
            refine E_goto 63 dX11_readBase_59 ?_
            refine E_callVV dX11_readBase_63 lkX11_137 (Hp_get sk_203) (must_1 (ho.x hX) hx hS2 e17') ?_
            rintro μ2 ⟨b1, b2⟩
            refine E_vret dX11_readBase_66 ?_
            refine ⟨rfl, _, rfl, ho.tr b2.w, Or.inl ⟨hok, b1, by rw [b2.2 17 (by omega)]; exact e17', ?_⟩⟩
            obtain ⟨c1, c2, c3, c4, c5⟩ := hB
            refine b2.b ⟨e5', ?_, ?_, ?_, c5.kept ?_ ?_⟩
            · rw [up_r, if_pos rfl]; exact q4
            · rw [up_r, if_neg (by omega), a2.2 7 (by omega), up_r, if_neg (by omega)]; exact c3
            · rw [up_r, if_neg (by omega), a2.2 8 (by omega), up_r, if_neg (by omega)]; exact c4
            · rw [up_ne 208 (by decide), a2.1 208 (by decide), up_ne 208 (by decide)]
            · rw [up_ne 209 (by decide), a2.1 209 (by decide), up_ne 209 (by decide)]
      · rw [cif_neg q5] at hin
        have hok : ¬ okB r := fun h => q5 (by rw [q4]; exact h.2)
        refine E_aload_n dX11_readBase_22 rfl ?_
        refine E_aload_n dX11_readBase_23 rfl ?_
        refine GX11_119 sk_203 dX11_readBase_24 ?_
        refine PX11_70 sk_203 dX11_readBase_27 ?_
        refine E_aload_n dX11_readBase_30 rfl ?_
        refine E_aload_n dX11_readBase_31 rfl ?_
        refine GX11_122 sk_203 dX11_readBase_32 ?_
        rw [e15, q3]
        refine E_iconst dX11_readBase_35 ?_
        refine E_icmp_ne 62 dX11_readBase_36 (fun h36 => ?_) (fun h36 => ?_)
        · -- 62
          refine E_iconst dX11_readBase_62 ?_
          refine E_callVU dX11_readBase_63 lkX11_137 (Hp_get sk_203) (must_0 e17') ?_
          refine E_vret dX11_readBase_66 ?_
          exact no hok
        · -- 39
          refine E_aload_n dX11_readBase_39 rfl ?_
          refine GX11_119 sk_203 dX11_readBase_40 ?_
          rw [e16]
          refine E_i2l dX11_readBase_43 ?_
          refine E_aload_n dX11_readBase_44 rfl ?_
          refine GX11_67 sk_203 dX11_readBase_45 ?_
          rw [e5']
          refine E_i2l dX11_readBase_48 ?_
          refine E_ldc2 dX11_readBase_49 coX11_135 ?_
          refine E_callSR dX11_readBase_52 lkX11_63 (hin) ?_
          refine E_if_eq 62 dX11_readBase_55 (fun h55 => ?_) (fun h55 => ?_)
          · -- 62
            refine E_iconst dX11_readBase_62 ?_
            refine E_callVU dX11_readBase_63 lkX11_137 (Hp_get sk_203) (must_0 e17') ?_
            refine E_vret dX11_readBase_66 ?_
            exact no hok
          · -- 58
            exact absurd rfl h55
    · have hok : ¬ okB r := fun h => q1 ⟨h.1, by have := h.2.2; omega⟩
      refine E_aload_n dX11_readBase_22 rfl ?_
      refine E_aload_n dX11_readBase_23 rfl ?_
      refine GX11_119 sk_203 dX11_readBase_24 ?_
      refine PX11_70 sk_203 dX11_readBase_27 ?_
      refine E_aload_n dX11_readBase_30 rfl ?_
      refine E_aload_n dX11_readBase_31 rfl ?_
      refine GX11_122 sk_203 dX11_readBase_32 ?_
      rw [e15]
      refine E_iconst dX11_readBase_35 ?_
      refine E_icmp_ne 62 dX11_readBase_36 (fun h36 => ?_) (fun h36 => ?_)
      · -- 62
        refine E_iconst dX11_readBase_62 ?_
        refine E_callVU dX11_readBase_63 lkX11_137 (Hp_get sk_203) (must_0 e17') ?_
        refine E_vret dX11_readBase_66 ?_
        exact no hok
      · -- 39
        exact absurd h36 q2
  have ek0 : tkK r = 111 → kB r = 0 := fun h => by unfold kB; rw [if_pos h]
  have ek1 : ¬ tkK r = 111 → kB r = 1 := fun h => by unfold kB; rw [if_neg h]
  have go : ∀ x : Int, x = kB r → Ctr G mX11_next [.ref 203] (Hp (up μ 203 5 x)) (V0 (fun μ' => MTk μ' t (nxt r) ∧ OffK (up μ 203 5 (kB r)) μ')) := by
    intro x hx1
    rw [hx1]
    exact m_next (hX.kept (by rw [up_r, if_neg (by omega)]) (up_ne 210 (by decide))) hx (hS.kept (fun j j1 j2 => by rw [up_r, if_neg (by omega)]))
  refine E_aload_n dX11_readBase_0 rfl ?_
  refine E_aload_n dX11_readBase_1 rfl ?_
  refine GX11_122 sk_203 dX11_readBase_2 ?_
  rw [h15]
  refine E_bipush dX11_readBase_5 ?_
  refine E_icmp_ne 14 dX11_readBase_7 (fun h7 => ?_) (fun h7 => ?_)
  · -- 14
    refine E_iconst dX11_readBase_14 ?_
    refine PX11_67 sk_203 dX11_readBase_15 ?_
    refine E_aload_n dX11_readBase_18 rfl ?_
    refine E_callVV dX11_readBase_19 lkX11_132 (Hp_get sk_203) (go _ (by first | exact (ek0 (hm1.mp (by omega))).symm | exact (ek1 (fun h => absurd (hm1.mpr h) (by omega))).symm)) ?_
    rintro μ1 ⟨a1, a2⟩
    exact fin μ1 a1 a2
  · -- 10
    refine E_iconst dX11_readBase_10 ?_
    refine E_goto 15 dX11_readBase_11 ?_
    refine PX11_67 sk_203 dX11_readBase_15 ?_
    refine E_aload_n dX11_readBase_18 rfl ?_
    refine E_callVV dX11_readBase_19 lkX11_132 (Hp_get sk_203) (go _ (by first | exact (ek0 (hm1.mp (by omega))).symm | exact (ek1 (fun h => absurd (hm1.mpr h) (by omega))).symm)) ?_
    rintro μ1 ⟨a1, a2⟩
    exact fin μ1 a1 a2
end MTELLS
