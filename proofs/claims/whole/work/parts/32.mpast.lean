/-! FibredSpacesModel: undo, images, counts -/
section MPAST
variable {G : GT} {μ : Mem} {M : HV} {σ : St}
theorem undo_loop {n : Nat} {Q : QT} (hn : n ≤ 5) (h2 : μ 203 2 = n) (hk : ∀ (μ2 : Mem) (w : Value), (∀ j : Int, 0 ≤ j → j < 96 → μ2 204 j = μ 205 (96 * (n : Int) + j)) → (∀ q : Nat, q ≠ 204 → μ2 q = μ q) → E G mX11_undo (Zq G mX11_undo Q) 0 0 54 [.ref 203, w] [] (Hp μ2)) : ∀ (t k : Nat) (μ' : Mem), k + t = 96 → (∀ j : Int, 0 ≤ j → j < k → μ' 204 j = μ 205 (96 * (n : Int) + j)) → (∀ q : Nat, q ≠ 204 → μ' q = μ q) →
    E G mX11_undo (Zq G mX11_undo Q) 0 0 22 [.ref 203, vi (k : Int)] [] (Hp μ')
  | 0, k, μ', hs, g1, g2 => by
    have : k = 96 := by omega
    subst this
    refine E_iload_n dX11_undo_22 rfl ?_
    refine E_bipush dX11_undo_23 ?_
    refine E_icmp_ge 54 dX11_undo_25 (fun h25 => ?_) (fun h25 => ?_)
    · -- 54
      exact hk μ' _ g1 g2
    · -- 28
      exfalso; omega
  | t + 1, k, μ', hs, g1, g2 => by
    have e1 : μ' 203 2 = n := by rw [g2 203 (by decide)]; exact h2
    refine E_iload_n dX11_undo_22 rfl ?_
    refine E_bipush dX11_undo_23 ?_
    refine E_icmp_ge 54 dX11_undo_25 (fun h25 => ?_) (fun h25 => ?_)
    · -- 54
      exfalso; omega
    · -- 28
      refine E_aload_n dX11_undo_28 rfl ?_
      refine GX11_7 sk_203 dX11_undo_29 ?_
      refine E_iload_n dX11_undo_32 rfl ?_
      refine E_aload_n dX11_undo_33 rfl ?_
      refine GX11_13 sk_203 dX11_undo_34 ?_
      refine E_bipush dX11_undo_37 ?_
      refine E_aload_n dX11_undo_39 rfl ?_
      refine GX11_57 sk_203 dX11_undo_40 ?_
      rw [e1]
      refine E_imul dX11_undo_43 ?_
      refine E_iload_n dX11_undo_44 rfl ?_
      refine E_iadd dX11_undo_45 ?_
      refine H_iald sk_205 dX11_undo_46 ?_
      refine H_iast sk_204 dX11_undo_47 ?_
      refine E_iinc dX11_undo_48 rfl ?_
      refine E_goto 22 dX11_undo_51 ?_
      refine undo_loop hn h2 hk t (k + 1) _ (by omega) (fun j j1 j2 => ?_) (fun q hq => by rw [up_ne q hq]; exact g2 q hq)
      rw [up_r]
      split
      · next e => rw [g2 205 (by decide), show j = k by omega]
      · exact g1 j j1 (by omega)
theorem m_undo (hM : RepM μ σ) (hok : stOk σ) : Ctr G mX11_undo [.ref 203] (Hp μ) (NQ μ (sUndo σ)) := by
  refine Ctr.of ?_
  obtain ⟨n1, n2, n3, n4, n5, n6⟩ := id hM
  obtain ⟨sh, past, r⟩ := σ
  have hl := hok.2.2.1
  have z1 := n2.1
  cases past with
  | nil =>
    have z2 : μ 203 2 = 0 := z1
    rw [show sUndo (sh, [], r) = (-2, sh, [], r) from rfl]
    refine E_aload_n dX11_undo_0 rfl ?_
    refine GX11_57 sk_203 dX11_undo_1 ?_
    rw [z2]
    refine E_if_ne 10 dX11_undo_4 (fun h4 => ?_) (fun h4 => ?_)
    · -- 10
      exact absurd rfl h4
    · -- 7
      refine E_bipush dX11_undo_7 ?_
      refine E_iret dX11_undo_9 ?_
      exact ⟨rfl, _, rfl, hM, fun _ _ => rfl⟩
  | cons p t =>
    rw [show sUndo (sh, p :: t, r) = ((t.length : Int), p, t, r) from rfl]
    simp only [List.length_cons] at hl z1
    have z2 : μ 203 2 = (t.length : Int) + 1 := by rw [z1]; omega
    have hpo := hok.2.1 p List.mem_cons_self
    have eu : (t.length : Int) + 1 - 1 = t.length := by omega
    refine E_aload_n dX11_undo_0 rfl ?_
    refine GX11_57 sk_203 dX11_undo_1 ?_
    rw [z2]
    refine E_if_ne 10 dX11_undo_4 (fun h4 => ?_) (fun h4 => ?_)
    · -- 10
      refine E_aload_n dX11_undo_10 rfl ?_
      refine E_dup dX11_undo_11 ?_
      refine GX11_57 sk_203 dX11_undo_12 ?_
      rw [z2]
      refine E_iconst dX11_undo_15 ?_
      refine E_isub dX11_undo_16 ?_
      rw [eu]
      refine PX11_57 sk_203 dX11_undo_17 ?_
      refine E_iconst dX11_undo_20 ?_
      refine E_istore_n dX11_undo_21 ?_
      refine undo_loop (μ := up μ 203 2 (t.length : Int)) (n := t.length) (by omega) (by rw [up_r, if_pos rfl]) (fun μ2 w g1 g2 => ?_) 96 0 _ (by omega) (fun j j1 j2 => by omega) (fun q _ => rfl)
      have e1 : μ2 203 2 = (t.length : Int) := by rw [g2 203 (by decide), up_r, if_pos rfl]
      refine E_aload_n dX11_undo_54 rfl (GX11_57 sk_203 dX11_undo_55 ?_)
      rw [e1]
      refine E_iret dX11_undo_58 ?_
      have ef : ∀ j : Int, j ≠ 2 → μ2 203 j = μ 203 j := fun j hj => by rw [g2 203 (by decide), up_r, if_neg hj]
      have eq : ∀ q : Nat, q ≠ 203 → q ≠ 204 → μ2 q = μ q := fun q h1 h2 => by rw [g2 q h2, up_ne q h1]
      refine ⟨rfl, _, rfl, ⟨?_, ⟨e1, fun j g hg => ?_⟩, n3.kept (eq 206 (by decide) (by decide)) (eq 207 (by decide) (by decide)), n4.kept (ef 12 (by decide)) (eq 210 (by decide) (by decide)), n5.kept (ef 28 (by decide)) (eq 216 (by decide) (by decide)) (eq 217 (by decide) (by decide)), by rw [eq 215 (by decide) (by decide)]; exact n6⟩, fun q hq => eq q (by omega) (by omega)⟩
      · refine (n2.2 0 p rfl).move hpo (fun k k1 k2 => ?_)
        rw [Int.zero_add, g1 k k1 k2, up_ne 205 (by decide), show 96 * (((p :: t).length : Int) - 1 - ((0 : Nat) : Int)) = 96 * (t.length : Int) by simp]
      · have := (n2.2 (j + 1) g (by simpa using hg)).kept (eq 205 (by decide) (by decide))
        rw [show 96 * (((p :: t).length : Int) - 1 - ((j + 1 : Nat) : Int)) = 96 * ((t.length : Int) - 1 - j) by simp; omega] at this
        exact this
    · -- 7
      exfalso; omega
theorem keep_loop {im : Int} {Q : QT} (hn : 0 ≤ im ∧ im ≤ 1) (hk : ∀ (μ2 : Mem) (w : Value), (∀ j : Int, 0 ≤ j → j < 96 → μ2 206 (96 * im + j) = μ 204 j) → (∀ j : Int, j < 96 * im ∨ 96 * im + 96 ≤ j → μ2 206 j = μ 206 j) → (∀ q : Nat, q ≠ 206 → μ2 q = μ q) → E G mX11_keep (Zq G mX11_keep Q) 0 0 43 [.ref 203, vi im, w] [] (Hp μ2)) : ∀ (t k : Nat) (μ' : Mem), k + t = 96 → (∀ j : Int, 0 ≤ j → j < k → μ' 206 (96 * im + j) = μ 204 j) → (∀ j : Int, j < 96 * im ∨ 96 * im + 96 ≤ j → μ' 206 j = μ 206 j) → (∀ q : Nat, q ≠ 206 → μ' q = μ q) →
    E G mX11_keep (Zq G mX11_keep Q) 0 0 14 [.ref 203, vi im, vi (k : Int)] [] (Hp μ')
  | 0, k, μ', hs, g1, g3, g2 => by
    have : k = 96 := by omega
    subst this
    refine E_iload_n dX11_keep_14 rfl ?_
    refine E_bipush dX11_keep_15 ?_
    refine E_icmp_ge 43 dX11_keep_17 (fun h17 => ?_) (fun h17 => ?_)
    · -- 43
      exact hk μ' _ g1 g3 g2
    · -- 20
      exfalso; omega
  | t + 1, k, μ', hs, g1, g3, g2 => by
    refine E_iload_n dX11_keep_14 rfl ?_
    refine E_bipush dX11_keep_15 ?_
    refine E_icmp_ge 43 dX11_keep_17 (fun h17 => ?_) (fun h17 => ?_)
    · -- 43
      exfalso; omega
    · -- 20
      refine E_aload_n dX11_keep_20 rfl ?_
      refine GX11_16 sk_203 dX11_keep_21 ?_
      refine E_bipush dX11_keep_24 ?_
      refine E_iload_n dX11_keep_26 rfl ?_
      refine E_imul dX11_keep_27 ?_
      refine E_iload_n dX11_keep_28 rfl ?_
      refine E_iadd dX11_keep_29 ?_
      refine E_aload_n dX11_keep_30 rfl ?_
      refine GX11_7 sk_203 dX11_keep_31 ?_
      refine E_iload_n dX11_keep_34 rfl ?_
      refine H_iald sk_204 dX11_keep_35 ?_
      refine H_iast sk_206 dX11_keep_36 ?_
      refine E_iinc dX11_keep_37 rfl ?_
      refine E_goto 14 dX11_keep_40 ?_
      refine keep_loop hn hk t (k + 1) _ (by omega) (fun j j1 j2 => ?_) (fun j hj => by rw [up_r, if_neg (by omega)]; exact g3 j hj) (fun q hq => by rw [up_ne q hq]; exact g2 q hq)
      rw [up_r]
      split
      · next e => rw [g2 204 (by decide), show j = k by omega]
      · exact g1 j j1 (by omega)
theorem m_keep {k : Int} (hk : -2147483648 ≤ k ∧ k < 2147483648) (hM : RepM μ σ) (hok : stOk σ) : Ctr G mX11_keep [.ref 203, vi k] (Hp μ) (NQ μ (sKeep σ k)) := by
  refine Ctr.of ?_
  obtain ⟨n1, n2, n3, n4, n5, n6⟩ := id hM
  have hin := m_in (G := G) (M := Hp μ) (v := k) (lo := 0) (hi := 1) (by omega) (by omega) (by omega)
  by_cases q : 0 ≤ k ∧ k < 2
  · rw [show sKeep σ k = _ from cif_pos q]
    rw [cif_pos (by omega)] at hin
    refine E_iload_n dX11_keep_0 rfl ?_
    refine E_i2l dX11_keep_1 ?_
    refine E_lconst0 dX11_keep_2 ?_
    refine E_lconst1 dX11_keep_3 ?_
    refine E_callSR dX11_keep_4 lkX11_63 (hin) ?_
    refine E_if_ne 12 dX11_keep_7 (fun h7 => ?_) (fun h7 => ?_)
    · -- 12
      refine E_iconst dX11_keep_12 ?_
      refine E_istore_n dX11_keep_13 ?_
      refine keep_loop (μ := μ) (im := k) (by omega) (fun μ2 w g1 g3 g2 => ?_) 96 0 _ (by omega) (fun j j1 j2 => by omega) (fun j _ => rfl) (fun q _ => rfl)
      refine E_aload_n dX11_keep_43 rfl (GX11_19 sk_203 dX11_keep_44 (E_iload_n dX11_keep_47 rfl (E_iconst dX11_keep_48 (H_zast sk_207 dX11_keep_49 (Or.inr rfl) (E_aload_n dX11_keep_50 rfl ?_)))))
      have eq : ∀ q : Nat, q ≠ 206 → q ≠ 207 → (up μ2 207 k 1) q = μ q := fun q h1 h2 => by rw [up_ne q h2, g2 q h1]
      refine E_callVR dX11_keep_51 lkX11_316 (Hp_get sk_203) (m_allFibres (σ := σ) (n1.kept (eq 204 (by decide) (by decide))) hok.1) ?_
      refine E_iret dX11_keep_54 ?_
      refine ⟨rfl, _, rfl, ⟨n1.kept (eq 204 (by decide) (by decide)), n2.kept (by rw [eq 203 (by decide) (by decide)]) (eq 205 (by decide) (by decide)), fun j hj => ?_, n4.kept (by rw [eq 203 (by decide) (by decide)]) (eq 210 (by decide) (by decide)), n5.kept (by rw [eq 203 (by decide) (by decide)]) (eq 216 (by decide) (by decide)) (eq 217 (by decide) (by decide)), by rw [eq 215 (by decide) (by decide)]; exact n6⟩, fun q hq => eq q (by omega) (by omega)⟩
      obtain ⟨d1, d2⟩ := n3 j hj
      by_cases e : j = k.toNat
      · subst e
        refine ⟨fun h => by simp at h, fun g hg => ?_⟩
        simp only [if_pos, Option.some.injEq] at hg
        subst hg
        refine ⟨by rw [up_r, if_pos (by omega)], RepW.kept (μ := μ2) (n1.move hok.1 (fun z z1 z2 => ?_)) (up_ne 206 (by decide))⟩
        rw [Int.zero_add, show 96 * ((k.toNat : Nat) : Int) = 96 * k by omega]
        exact g1 z z1 z2
      · have e2 : μ2 207 j = μ 207 j := by rw [g2 207 (by decide)]
        refine ⟨fun h => ?_, fun g hg => ?_⟩
        · simp only [if_neg e] at h
          rw [up_r, if_neg (by omega), e2]; exact d1 h
        · simp only [if_neg e] at hg
          obtain ⟨d3, d4⟩ := d2 g hg
          refine ⟨by rw [up_r, if_neg (by omega), e2]; exact d3, RepW.kept (μ := μ2) (d4.move (hok.2.2.2.1 j g hg) (fun z z1 z2 => g3 _ (by omega))) (up_ne 206 (by decide))⟩
    · -- 10
      exact absurd h7 (by decide)
  · rw [show sKeep σ k = (-1, σ) from cif_neg q]
    rw [cif_neg (by omega)] at hin
    refine E_iload_n dX11_keep_0 rfl ?_
    refine E_i2l dX11_keep_1 ?_
    refine E_lconst0 dX11_keep_2 ?_
    refine E_lconst1 dX11_keep_3 ?_
    refine E_callSR dX11_keep_4 lkX11_63 (hin) ?_
    refine E_if_ne 12 dX11_keep_7 (fun h7 => ?_) (fun h7 => ?_)
    · -- 12
      exact absurd rfl h7
    · -- 10
      refine E_iconst dX11_keep_10 ?_
      refine E_iret dX11_keep_11 ?_
      exact ⟨rfl, _, rfl, hM, fun _ _ => rfl⟩
theorem back_loop {im : Int} {Q : QT} (hn : 0 ≤ im ∧ im ≤ 1) (hk : ∀ (μ2 : Mem) (w : Value), (∀ j : Int, 0 ≤ j → j < 96 → μ2 204 j = μ 206 (96 * im + j)) → (∀ q : Nat, q ≠ 204 → μ2 q = μ q) → E G mX11_back (Zq G mX11_back Q) 0 0 55 [.ref 203, vi im, w] [] (Hp μ2)) : ∀ (t k : Nat) (μ' : Mem), k + t = 96 → (∀ j : Int, 0 ≤ j → j < k → μ' 204 j = μ 206 (96 * im + j)) → (∀ q : Nat, q ≠ 204 → μ' q = μ q) →
    E G mX11_back (Zq G mX11_back Q) 0 0 26 [.ref 203, vi im, vi (k : Int)] [] (Hp μ')
  | 0, k, μ', hs, g1, g2 => by
    have : k = 96 := by omega
    subst this
    refine E_iload_n dX11_back_26 rfl ?_
    refine E_bipush dX11_back_27 ?_
    refine E_icmp_ge 55 dX11_back_29 (fun h29 => ?_) (fun h29 => ?_)
    · -- 55
      exact hk μ' _ g1 g2
    · -- 32
      exfalso; omega
  | t + 1, k, μ', hs, g1, g2 => by
    refine E_iload_n dX11_back_26 rfl ?_
    refine E_bipush dX11_back_27 ?_
    refine E_icmp_ge 55 dX11_back_29 (fun h29 => ?_) (fun h29 => ?_)
    · -- 55
      exfalso; omega
    · -- 32
      refine E_aload_n dX11_back_32 rfl ?_
      refine GX11_7 sk_203 dX11_back_33 ?_
      refine E_iload_n dX11_back_36 rfl ?_
      refine E_aload_n dX11_back_37 rfl ?_
      refine GX11_16 sk_203 dX11_back_38 ?_
      refine E_bipush dX11_back_41 ?_
      refine E_iload_n dX11_back_43 rfl ?_
      refine E_imul dX11_back_44 ?_
      refine E_iload_n dX11_back_45 rfl ?_
      refine E_iadd dX11_back_46 ?_
      refine H_iald sk_206 dX11_back_47 ?_
      refine H_iast sk_204 dX11_back_48 ?_
      refine E_iinc dX11_back_49 rfl ?_
      refine E_goto 26 dX11_back_52 ?_
      refine back_loop hn hk t (k + 1) _ (by omega) (fun j j1 j2 => ?_) (fun q hq => by rw [up_ne q hq]; exact g2 q hq)
      rw [up_r]
      split
      · next e => rw [g2 206 (by decide), show j = k by omega]
      · exact g1 j j1 (by omega)
theorem m_back {k : Int} (hk : -2147483648 ≤ k ∧ k < 2147483648) (hM : RepM μ σ) (hok : stOk σ) : Ctr G mX11_back [.ref 203, vi k] (Hp μ) (NQ μ (sBack σ k)) := by
  refine Ctr.of ?_
  obtain ⟨n1, n2, n3, n4, n5, n6⟩ := id hM
  have hin := m_in (G := G) (M := Hp μ) (v := k) (lo := 0) (hi := 1) (by omega) (by omega) (by omega)
  by_cases q : 0 ≤ k ∧ k < 2
  · rw [cif_pos (by omega)] at hin
    obtain ⟨d1, d2⟩ := n3 k.toNat (by omega)
    rw [show ((k.toNat : Nat) : Int) = k by omega] at d1 d2
    cases hm : σ.2.2.1 k.toNat with
    | none =>
      have d3 := d1 hm
      rw [show sBack σ k = (-2, σ) from (cif_pos q).trans (by rw [hm])]
      refine E_iload_n dX11_back_0 rfl ?_
      refine E_i2l dX11_back_1 ?_
      refine E_lconst0 dX11_back_2 ?_
      refine E_lconst1 dX11_back_3 ?_
      refine E_callSR dX11_back_4 lkX11_63 (hin) ?_
      refine E_if_ne 12 dX11_back_7 (fun h7 => ?_) (fun h7 => ?_)
      · -- 12
        refine E_aload_n dX11_back_12 rfl ?_
        refine GX11_19 sk_203 dX11_back_13 ?_
        refine E_iload_n dX11_back_16 rfl ?_
        refine H_zald sk_207 dX11_back_17 ?_
        rw [d3]
        refine E_if_ne 24 dX11_back_18 (fun h18 => ?_) (fun h18 => ?_)
        · -- 24
          exact absurd rfl h18
        · -- 21
          refine E_bipush dX11_back_21 ?_
          refine E_iret dX11_back_23 ?_
          exact ⟨rfl, _, rfl, hM, fun _ _ => rfl⟩
      · -- 10
        exact absurd h7 (by decide)
    | some g =>
      obtain ⟨d3, d4⟩ := d2 g hm
      have hgo := hok.2.2.2.1 k.toNat g hm
      rw [show sBack σ k = (sumF g 6, g, [], σ.2.2.1, σ.2.2.2.1, σ.2.2.2.2) from (cif_pos q).trans (by rw [hm])]
      refine E_iload_n dX11_back_0 rfl ?_
      refine E_i2l dX11_back_1 ?_
      refine E_lconst0 dX11_back_2 ?_
      refine E_lconst1 dX11_back_3 ?_
      refine E_callSR dX11_back_4 lkX11_63 (hin) ?_
      refine E_if_ne 12 dX11_back_7 (fun h7 => ?_) (fun h7 => ?_)
      · -- 12
        refine E_aload_n dX11_back_12 rfl ?_
        refine GX11_19 sk_203 dX11_back_13 ?_
        refine E_iload_n dX11_back_16 rfl ?_
        refine H_zald sk_207 dX11_back_17 ?_
        rw [d3]
        refine E_if_ne 24 dX11_back_18 (fun h18 => ?_) (fun h18 => ?_)
        · -- 24
          refine E_iconst dX11_back_24 ?_
          refine E_istore_n dX11_back_25 ?_
          refine back_loop (μ := μ) (im := k) (by omega) (fun μ2 w g1 g2 => ?_) 96 0 _ (by omega) (fun j j1 j2 => by omega) (fun q _ => rfl)
          refine E_aload_n dX11_back_55 rfl (E_iconst dX11_back_56 (PX11_57 sk_203 dX11_back_57 (E_aload_n dX11_back_60 rfl ?_)))
          have ef : ∀ j : Int, j ≠ 2 → (up μ2 203 2 0) 203 j = μ 203 j := fun j hj => by rw [up_r, if_neg hj, g2 203 (by decide)]
          have eq : ∀ q : Nat, q ≠ 203 → q ≠ 204 → (up μ2 203 2 0) q = μ q := fun q h1 h2 => by rw [up_ne q h1, g2 q h2]
          have hw : RepW (up μ2 203 2 0) 204 0 g := d4.move hgo (fun z z1 z2 => by rw [Int.zero_add, up_ne 204 (by decide)]; exact g1 z z1 z2)
          refine E_callVR dX11_back_61 lkX11_316 (Hp_get sk_203) (m_allFibres (σ := (g, [], σ.2.2.1, σ.2.2.2.1, σ.2.2.2.2)) hw hgo) ?_
          refine E_iret dX11_back_64 ?_
          exact ⟨rfl, _, rfl, ⟨hw, ⟨by rw [up_r, if_pos rfl]; rfl, fun j p hp => by simp at hp⟩, n3.kept (eq 206 (by decide) (by decide)) (eq 207 (by decide) (by decide)), n4.kept (ef 12 (by decide)) (eq 210 (by decide) (by decide)), n5.kept (ef 28 (by decide)) (eq 216 (by decide) (by decide)) (eq 217 (by decide) (by decide)), by rw [eq 215 (by decide) (by decide)]; exact n6⟩, fun q hq => eq q (by omega) (by omega)⟩
        · -- 21
          exact absurd h18 (by decide)
      · -- 10
        exact absurd h7 (by decide)
  · rw [show sBack σ k = (-1, σ) from cif_neg q]
    rw [cif_neg (by omega)] at hin
    refine E_iload_n dX11_back_0 rfl ?_
    refine E_i2l dX11_back_1 ?_
    refine E_lconst0 dX11_back_2 ?_
    refine E_lconst1 dX11_back_3 ?_
    refine E_callSR dX11_back_4 lkX11_63 (hin) ?_
    refine E_if_ne 12 dX11_back_7 (fun h7 => ?_) (fun h7 => ?_)
    · -- 12
      exact absurd rfl h7
    · -- 10
      refine E_iconst dX11_back_10 ?_
      refine E_iret dX11_back_11 ?_
      exact ⟨rfl, _, rfl, hM, fun _ _ => rfl⟩
theorem m_count {w : Int} (hw : -2147483648 ≤ w ∧ w < 2147483648) (hM : RepM μ σ) (hok : stOk σ) : Ctr G mX11_count [.ref 203, vi w] (Hp μ) (NQ μ (aCount σ w, σ)) := by
  refine Ctr.of ?_
  by_cases w0 : w = 0
  · subst w0
    rw [show aCount σ 0 = _ from cif_pos rfl]
    refine E_iload_n dX11_count_0 rfl ?_
    refine E_tin 32 dX11_count_1 (by omega) (by omega) (by omega) rfl rfl ?_
    refine E_aload_n dX11_count_32 rfl ?_
    refine E_callVR dX11_count_33 lkX11_316 (Hp_get sk_203) (m_allFibres hM.1 hok.1) ?_
    refine E_iret dX11_count_36 ?_
    exact ⟨rfl, _, rfl, hM, fun _ _ => rfl⟩
  by_cases w1 : w = 1
  · subst w1
    rw [show aCount σ 1 = _ from (cif_neg w0).trans (cif_pos rfl)]
    refine E_iload_n dX11_count_0 rfl ?_
    refine E_tin 37 dX11_count_1 (by omega) (by omega) (by omega) rfl rfl ?_
    refine E_aload_n dX11_count_37 rfl ?_
    refine GX11_306 sk_203 dX11_count_38 ?_
    rw [hM.2.2.2.2.1.1]
    refine E_iret dX11_count_41 ?_
    exact ⟨rfl, _, rfl, hM, fun _ _ => rfl⟩
  by_cases w2 : w = 2
  · subst w2
    rw [show aCount σ 2 = _ from (cif_neg w0).trans ((cif_neg w1).trans (cif_pos rfl))]
    refine E_iload_n dX11_count_0 rfl ?_
    refine E_tin 42 dX11_count_1 (by omega) (by omega) (by omega) rfl rfl ?_
    refine E_aload_n dX11_count_42 rfl ?_
    refine GX11_110 sk_203 dX11_count_43 ?_
    rw [hM.2.2.2.1.1]
    refine E_iret dX11_count_46 ?_
    exact ⟨rfl, _, rfl, hM, fun _ _ => rfl⟩
  by_cases w3 : w = 3
  · subst w3
    rw [show aCount σ 3 = _ from (cif_neg w0).trans ((cif_neg w1).trans ((cif_neg w2).trans (cif_pos rfl)))]
    refine E_iload_n dX11_count_0 rfl ?_
    refine E_tin 47 dX11_count_1 (by omega) (by omega) (by omega) rfl rfl ?_
    refine E_aload_n dX11_count_47 rfl ?_
    refine GX11_57 sk_203 dX11_count_48 ?_
    rw [hM.2.1.1]
    refine E_iret dX11_count_51 ?_
    exact ⟨rfl, _, rfl, hM, fun _ _ => rfl⟩
  rw [show aCount σ w = -1 from (cif_neg w0).trans ((cif_neg w1).trans ((cif_neg w2).trans (cif_neg w3)))]
  refine E_iload_n dX11_count_0 rfl ?_
  refine E_tout 52 dX11_count_1 (by omega) (by omega) rfl ?_
  refine E_iconst dX11_count_52 ?_
  refine E_iret dX11_count_53 ?_
  exact ⟨rfl, _, rfl, hM, fun _ _ => rfl⟩
end MPAST
