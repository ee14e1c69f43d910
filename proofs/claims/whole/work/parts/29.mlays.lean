/-! FibredSpacesModel: shelves before, what is laid -/
section MLAYS
variable {G : GT} {μ : Mem} {M : HV} {σ : St}
def OffP (μ μ' : Mem) : Prop := (∀ q : Nat, q ≠ 203 → q ≠ 205 → μ' q = μ q) ∧ ∀ j : Int, j ≠ 2 → μ' 203 j = μ 203 j
theorem note_2 {sh : Sh} {l : List Sh} (hsh : RepW μ 204 0 sh) (hok : shOk sh) (hl : l.length ≤ 5) (hlo : ∀ p ∈ l, shOk p) (hP : RepP μ l) : ∀ (t k : Nat) (μ' : Mem), k + t = 96 → (∀ j : Int, 0 ≤ j → j < k → μ' 205 (96 * (l.length : Int) + j) = μ 204 j) → (∀ j : Int, j < 96 * (l.length : Int) → μ' 205 j = μ 205 j) → (∀ q : Nat, q ≠ 205 → μ' q = μ q) →
    E G mX11_note (Zq G mX11_note (V0 (fun μ' => RepP μ' (sh :: l) ∧ OffP μ μ'))) 0 0 51 [.ref 203, vi (k : Int)] [] (Hp μ')
  | 0, k, μ', hk, h1, h2, h3 => by
    have : k = 96 := by omega
    subst this
    have e1 : μ' 203 2 = l.length := by rw [h3 203 (by decide)]; exact hP.1
    refine E_iload_n dX11_note_51 rfl ?_
    refine E_bipush dX11_note_52 ?_
    refine E_icmp_ge 83 dX11_note_54 (fun h54 => ?_) (fun h54 => ?_)
    · -- 83
      refine E_aload_n dX11_note_83 rfl ?_
      refine E_dup dX11_note_84 ?_
      refine GX11_57 sk_203 dX11_note_85 ?_
      rw [e1]
      refine E_iconst dX11_note_88 ?_
      refine E_iadd dX11_note_89 ?_
      refine PX11_57 sk_203 dX11_note_90 ?_
      refine E_vret dX11_note_93 ?_
      refine ⟨rfl, _, rfl, ⟨by rw [up_r, if_pos rfl]; simp, fun j p hp => ?_⟩, fun q q1 q2 => by rw [up_ne q (by omega)]; exact h3 q q2, fun j hj => by rw [up_r, if_neg hj, h3 203 (by decide)]⟩
      refine RepW.kept (μ := μ') ?_ (up_ne 205 (by decide))
      cases j with
      | zero =>
        simp at hp
        subst hp
        refine hsh.move hok (fun k k1 k2 => ?_)
        rw [show 96 * (((sh :: l).length : Int) - 1 - ((0 : Nat) : Int)) = 96 * (l.length : Int) by simp, h1 k k1 (by omega), Int.zero_add]
      | succ j =>
        simp at hp
        have hj : j < l.length := (List.getElem?_eq_some_iff.mp hp).1
        refine (hP.2 j p hp).move (hlo p (List.mem_of_getElem? hp)) (fun k k1 k2 => ?_)
        rw [show 96 * (((sh :: l).length : Int) - 1 - ((j + 1 : Nat) : Int)) = 96 * ((l.length : Int) - 1 - j) by simp; omega]
        exact h2 _ (by omega)
    · -- 57
      exfalso; omega
  | t + 1, k, μ', hk, h1, h2, h3 => by
    have e1 : μ' 203 2 = l.length := by rw [h3 203 (by decide)]; exact hP.1
    refine E_iload_n dX11_note_51 rfl ?_
    refine E_bipush dX11_note_52 ?_
    refine E_icmp_ge 83 dX11_note_54 (fun h54 => ?_) (fun h54 => ?_)
    · -- 83
      exfalso; omega
    · -- 57
      refine E_aload_n dX11_note_57 rfl ?_
      refine GX11_13 sk_203 dX11_note_58 ?_
      refine E_bipush dX11_note_61 ?_
      refine E_aload_n dX11_note_63 rfl ?_
      refine GX11_57 sk_203 dX11_note_64 ?_
      rw [e1]
      refine E_imul dX11_note_67 ?_
      refine E_iload_n dX11_note_68 rfl ?_
      refine E_iadd dX11_note_69 ?_
      refine E_aload_n dX11_note_70 rfl ?_
      refine GX11_7 sk_203 dX11_note_71 ?_
      refine E_iload_n dX11_note_74 rfl ?_
      refine H_iald sk_204 dX11_note_75 ?_
      refine H_iast sk_205 dX11_note_76 ?_
      refine E_iinc dX11_note_77 rfl ?_
      refine E_goto 51 dX11_note_80 ?_
      refine note_2 hsh hok hl hlo hP t (k + 1) _ (by omega) (fun j j1 j2 => ?_) (fun j j1 => ?_) (fun q hq => by rw [up_ne q hq]; exact h3 q hq)
      · rw [up_r]
        split
        · next e => rw [h3 204 (by decide), show j = k by omega]
        · exact h1 j j1 (by omega)
      · rw [up_r, if_neg (by omega)]; exact h2 j j1
theorem note_1 {Q : QT} (hk : ∀ (μ2 : Mem) (w : Value), (∀ j : Int, 0 ≤ j → j < 480 → μ2 205 j = μ 205 (j + 96)) → (∀ q : Nat, q ≠ 205 → μ2 q = μ q) → E G mX11_note (Zq G mX11_note Q) 0 0 39 [.ref 203, w] [] (Hp μ2)) : ∀ (t k : Nat) (μ' : Mem), k + t = 480 → (∀ j : Int, 0 ≤ j → j < k → μ' 205 j = μ 205 (j + 96)) → (∀ j : Int, k ≤ j → μ' 205 j = μ 205 j) → (∀ q : Nat, q ≠ 205 → μ' q = μ q) →
    E G mX11_note (Zq G mX11_note Q) 0 0 11 [.ref 203, vi (k : Int)] [] (Hp μ')
  | 0, k, μ', hn, h1, h2, h3 => by
    have : k = 480 := by omega
    subst this
    refine E_iload_n dX11_note_11 rfl ?_
    refine E_sipush dX11_note_12 ?_
    refine E_icmp_ge 39 dX11_note_15 (fun h15 => ?_) (fun h15 => ?_)
    · -- 39
      exact hk μ' _ h1 h3
    · -- 18
      exfalso; omega
  | t + 1, k, μ', hn, h1, h2, h3 => by
    refine E_iload_n dX11_note_11 rfl ?_
    refine E_sipush dX11_note_12 ?_
    refine E_icmp_ge 39 dX11_note_15 (fun h15 => ?_) (fun h15 => ?_)
    · -- 39
      exfalso; omega
    · -- 18
      refine E_aload_n dX11_note_18 rfl ?_
      refine GX11_13 sk_203 dX11_note_19 ?_
      refine E_iload_n dX11_note_22 rfl ?_
      refine E_aload_n dX11_note_23 rfl ?_
      refine GX11_13 sk_203 dX11_note_24 ?_
      refine E_iload_n dX11_note_27 rfl ?_
      refine E_bipush dX11_note_28 ?_
      refine E_iadd dX11_note_30 ?_
      refine H_iald sk_205 dX11_note_31 ?_
      rw [h2 _ (by omega)]
      refine H_iast sk_205 dX11_note_32 ?_
      refine E_iinc dX11_note_33 rfl ?_
      refine E_goto 11 dX11_note_36 ?_
      refine note_1 hk t (k + 1) _ (by omega) (fun j j1 j2 => ?_) (fun j j1 => ?_) (fun q hq => by rw [up_ne q hq]; exact h3 q hq)
      · rw [up_r]
        split
        · next e => rw [show j = k by omega]
        · exact h1 j j1 (by omega)
      · rw [up_r, if_neg (by omega)]; exact h2 j (by omega)
theorem m_note {sh : Sh} {l : List Sh} (hsh : RepW μ 204 0 sh) (hok : shOk sh) (hl : l.length ≤ 6) (hlo : ∀ p ∈ l, shOk p) (hP : RepP μ l) : Ctr G mX11_note [.ref 203] (Hp μ) (V0 (fun μ' => RepP μ' ((sh :: l).take 6) ∧ OffP μ μ')) := by
  refine Ctr.of ?_
  have e1 := hP.1
  by_cases q : l.length = 6
  · skip
    refine E_aload_n dX11_note_0 rfl ?_
    refine GX11_57 sk_203 dX11_note_1 ?_
    refine E_bipush dX11_note_4 ?_
    refine E_icmp_ne 49 dX11_note_6 (fun h6 => ?_) (fun h6 => ?_)
    · -- 49
      exfalso; omega
    · -- 9
      refine E_iconst dX11_note_9 ?_
      refine E_istore_n dX11_note_10 ?_
      refine note_1 (μ := μ) (fun μ2 w g1 g2 => ?_) 480 0 μ (by omega) (fun j j1 j2 => by omega) (fun j _ => rfl) (fun q _ => rfl)
      have e2 : μ2 203 2 = 6 := by rw [g2 203 (by decide)]; omega
      have el : (l.take 5).length = 5 := by rw [List.length_take]; omega
      refine E_aload_n dX11_note_39 rfl (E_dup dX11_note_40 (GX11_57 sk_203 dX11_note_41 (E_iconst dX11_note_44 (E_isub dX11_note_45 (PX11_57 sk_203 dX11_note_46 (E_iconst dX11_note_49 (E_istore_n dX11_note_50 ?_)))))))
      rw [e2]
      have hP5 : RepP (up μ2 203 2 (6 - 1)) (l.take 5) := by
        refine ⟨by rw [up_r, if_pos rfl, el]; rfl, fun j p hp => ?_⟩
        have hj : j < 5 := by have := (List.getElem?_eq_some_iff.mp hp).1; omega
        rw [List.getElem?_take, if_pos hj] at hp
        refine (hP.2 j p hp).move (hlo p (List.mem_of_getElem? hp)) (fun k k1 k2 => ?_)
        rw [up_ne 205 (by decide), g1 _ (by omega) (by omega)]
        congr 1
        omega
      refine E_mono ?_ (note_2 (μ := up μ2 203 2 (6 - 1)) (l := l.take 5) (hsh.kept (by rw [up_ne 204 (by decide), g2 204 (by decide)])) hok (by omega) (fun p hp => hlo p (List.mem_of_mem_take hp)) hP5 96 0 _ (by omega) (fun j j1 j2 => by omega) (fun j _ => rfl) (fun q _ => rfl))
      rintro v M ⟨hv, μ', hM, f1, f2, f3⟩
      refine ⟨hv, μ', hM, by rw [List.take_succ_cons]; exact f1, fun q q1 q2 => by rw [f2 q q1 q2, up_ne q (by omega), g2 q q2], fun j hj => by rw [f3 j hj, up_r, if_neg hj, g2 203 (by decide)]⟩
  · rw [List.take_of_length_le (by simp; omega)]
    refine E_aload_n dX11_note_0 rfl ?_
    refine GX11_57 sk_203 dX11_note_1 ?_
    refine E_bipush dX11_note_4 ?_
    refine E_icmp_ne 49 dX11_note_6 (fun h6 => ?_) (fun h6 => ?_)
    · -- 49
      refine E_iconst dX11_note_49 ?_
      refine E_istore_n dX11_note_50 ?_
      exact note_2 hsh hok (by omega) hlo hP 96 0 μ (by omega) (fun j j1 j2 => by omega) (fun j _ => rfl) (fun q _ => rfl)
    · -- 9
      exfalso; omega
end MLAYS
