/-! FibredSpacesModel: shelves before, what is laid -/
section MLAYS
variable {G : GT} {μ : Mem} {M : HV} {σ : St}
def OffP (μ μ' : Mem) : Prop := (∀ q : Nat, q ≠ 203 → q ≠ 205 → μ' q = μ q) ∧ ∀ j : Int, j ≠ 2 → μ' 203 j = μ 203 j
theorem note_2 {sh : Sh} {l : List Sh} (hsh : RepW μ 204 0 sh) (hok : shOk sh) (hl : l.length ≤ 5) (hlo : ∀ p ∈ l, shOk p) (hP : RepP μ l) : ∀ (t k : Nat) (μ' : Mem), k + t = 96 → (∀ j : Int, 0 ≤ j → j < k → μ' 205 (96 * (l.length : Int) + j) = μ 204 j) → (∀ j : Int, j < 96 * (l.length : Int) → μ' 205 j = μ 205 j) → (∀ q : Nat, q ≠ 205 → μ' q = μ q) →
    E G mX11_note (Zq G mX11_note (V0 (fun μ' => RepP μ' (sh :: l) ∧ OffP μ μ'))) 0 0 51 [.ref 203, vi (k : Int)] [] (Hp μ')
  | 0, k, μ', hk, h1, h2, h3 => by
    have : k = 96 := by omega
    subst this
    have e1 : μ' 203 2 = l.length := by rw [h3 203 (by decide)]; exact hP.1
    refine E_iload_n dX11_note_51 rfl ?_
    refine E_bipush dX11_note_52 ?_
    refine E_icmp_ge 83 dX11_note_54 (fun h54 => ?_) (fun h54 => ?_)
    · -- 83
      refine E_aload_n dX11_note_83 rfl ?_
      refine E_dup dX11_note_84 ?_
      refine GX11_57 sk_203 dX11_note_85 ?_
      rw [e1]
      refine E_iconst dX11_note_88 ?_
      refine E_iadd dX11_note_89 ?_
      refine PX11_57 sk_203 dX11_note_90 ?_
      refine E_vret dX11_note_93 ?_
      refine ⟨rfl, _, rfl, ⟨by rw [up_r, if_pos rfl]; simp, fun j p hp => ?_⟩, fun q q1 q2 => by rw [up_ne q (by omega)]; exact h3 q q2, fun j hj => by rw [up_r, if_neg hj, h3 203 (by decide)]⟩
      refine RepW.kept (μ := μ') ?_ (up_ne 205 (by decide))
      cases j with
      | zero =>
        simp at hp
        subst hp
        refine hsh.move hok (fun k k1 k2 => ?_)
        rw [show 96 * (((sh :: l).length : Int) - 1 - ((0 : Nat) : Int)) = 96 * (l.length : Int) by simp, h1 k k1 (by omega), Int.zero_add]
      | succ j =>
        simp at hp
        have hj : j < l.length := (List.getElem?_eq_some_iff.mp hp).1
        refine (hP.2 j p hp).move (hlo p (List.mem_of_getElem? hp)) (fun k k1 k2 => ?_)
        rw [show 96 * (((sh :: l).length : Int) - 1 - ((j + 1 : Nat) : Int)) = 96 * ((l.length : Int) - 1 - j) by simp; omega]
        exact h2 _ (by omega)
    · -- 57
      exfalso; omega
  | t + 1, k, μ', hk, h1, h2, h3 => by
    have e1 : μ' 203 2 = l.length := by rw [h3 203 (by decide)]; exact hP.1
    refine E_iload_n dX11_note_51 rfl ?_
    refine E_bipush dX11_note_52 ?_
    refine E_icmp_ge 83 dX11_note_54 (fun h54 => ?_) (fun h54 => ?_)
    · -- 83
      exfalso; omega
    · -- 57
      refine E_aload_n dX11_note_57 rfl ?_
      refine GX11_13 sk_203 dX11_note_58 ?_
      refine E_bipush dX11_note_61 ?_
      refine E_aload_n dX11_note_63 rfl ?_
      refine GX11_57 sk_203 dX11_note_64 ?_
      rw [e1]
      refine E_imul dX11_note_67 ?_
      refine E_iload_n dX11_note_68 rfl ?_
      refine E_iadd dX11_note_69 ?_
      refine E_aload_n dX11_note_70 rfl ?_
      refine GX11_7 sk_203 dX11_note_71 ?_
      refine E_iload_n dX11_note_74 rfl ?_
      refine H_iald sk_204 dX11_note_75 ?_
      refine H_iast sk_205 dX11_note_76 ?_
      refine E_iinc dX11_note_77 rfl ?_
      refine E_goto 51 dX11_note_80 ?_
      refine note_2 hsh hok hl hlo hP t (k + 1) _ (by omega) (fun j j1 j2 => ?_) (fun j j1 => ?_) (fun q hq => by rw [up_ne q hq]; exact h3 q hq)
      · rw [up_r]
        split
        · next e => rw [h3 204 (by decide), show j = k by omega]
        · exact h1 j j1 (by omega)
      · rw [up_r, if_neg (by omega)]; exact h2 j j1
theorem note_1 {Q : QT} (hk : ∀ (μ2 : Mem) (w : Value), (∀ j : Int, 0 ≤ j → j < 480 → μ2 205 j = μ 205 (j + 96)) → (∀ q : Nat, q ≠ 205 → μ2 q = μ q) → E G mX11_note (Zq G mX11_note Q) 0 0 39 [.ref 203, w] [] (Hp μ2)) : ∀ (t k : Nat) (μ' : Mem), k + t = 480 → (∀ j : Int, 0 ≤ j → j < k → μ' 205 j = μ 205 (j + 96)) → (∀ j : Int, k ≤ j → μ' 205 j = μ 205 j) → (∀ q : Nat, q ≠ 205 → μ' q = μ q) →
    E G mX11_note (Zq G mX11_note Q) 0 0 11 [.ref 203, vi (k : Int)] [] (Hp μ')
  | 0, k, μ', hn, h1, h2, h3 => by
    have : k = 480 := by omega
    subst this
    refine E_iload_n dX11_note_11 rfl ?_
    refine E_sipush dX11_note_12 ?_
    refine E_icmp_ge 39 dX11_note_15 (fun h15 => ?_) (fun h15 => ?_)
    · -- 39
      exact hk μ' _ h1 h3
    · -- 18
      exfalso; omega
  | t + 1, k, μ', hn, h1, h2, h3 => by
    refine E_iload_n dX11_note_11 rfl ?_
    refine E_sipush dX11_note_12 ?_
    refine E_icmp_ge 39 dX11_note_15 (fun h15 => ?_) (fun h15 => ?_)
    · -- 39
      exfalso; omega
    · -- 18
      refine E_aload_n dX11_note_18 rfl ?_
      refine GX11_13 sk_203 dX11_note_19 ?_
      refine E_iload_n dX11_note_22 rfl ?_
      refine E_aload_n dX11_note_23 rfl ?_
      refine GX11_13 sk_203 dX11_note_24 ?_
      refine E_iload_n dX11_note_27 rfl ?_
      refine E_bipush dX11_note_28 ?_
      refine E_iadd dX11_note_30 ?_
      refine H_iald sk_205 dX11_note_31 ?_
      rw [h2 _ (by omega)]
      refine H_iast sk_205 dX11_note_32 ?_
      refine E_iinc dX11_note_33 rfl ?_
      refine E_goto 11 dX11_note_36 ?_
      refine note_1 hk t (k + 1) _ (by omega) (fun j j1 j2 => ?_) (fun j j1 => ?_) (fun q hq => by rw [up_ne q hq]; exact h3 q hq)
      · rw [up_r]
        split
        · next e => rw [show j = k by omega]
        · exact h1 j j1 (by omega)
      · rw [up_r, if_neg (by omega)]; exact h2 j (by omega)
theorem m_note {sh : Sh} {l : List Sh} (hsh : RepW μ 204 0 sh) (hok : shOk sh) (hl : l.length ≤ 6) (hlo : ∀ p ∈ l, shOk p) (hP : RepP μ l) : Ctr G mX11_note [.ref 203] (Hp μ) (V0 (fun μ' => RepP μ' ((sh :: l).take 6) ∧ OffP μ μ')) := by
  refine Ctr.of ?_
  have e1 := hP.1
  by_cases q : l.length = 6
  · skip
    refine E_aload_n dX11_note_0 rfl ?_
    refine GX11_57 sk_203 dX11_note_1 ?_
    refine E_bipush dX11_note_4 ?_
    refine E_icmp_ne 49 dX11_note_6 (fun h6 => ?_) (fun h6 => ?_)
    · -- 49
      exfalso; omega
    · -- 9
      refine E_iconst dX11_note_9 ?_
      refine E_istore_n dX11_note_10 ?_
      refine note_1 (μ := μ) (fun μ2 w g1 g2 => ?_) 480 0 μ (by omega) (fun j j1 j2 => by omega) (fun j _ => rfl) (fun q _ => rfl)
      have e2 : μ2 203 2 = 6 := by rw [g2 203 (by decide)]; omega
      have el : (l.take 5).length = 5 := by rw [List.length_take]; omega
      refine E_aload_n dX11_note_39 rfl (E_dup dX11_note_40 (GX11_57 sk_203 dX11_note_41 (E_iconst dX11_note_44 (E_isub dX11_note_45 (PX11_57 sk_203 dX11_note_46 (E_iconst dX11_note_49 (E_istore_n dX11_note_50 ?_)))))))
      rw [e2]
      have hP5 : RepP (up μ2 203 2 (6 - 1)) (l.take 5) := by
        refine ⟨by rw [up_r, if_pos rfl, el]; rfl, fun j p hp => ?_⟩
        have hj : j < 5 := by have := (List.getElem?_eq_some_iff.mp hp).1; omega
        rw [List.getElem?_take, if_pos hj] at hp
        refine (hP.2 j p hp).move (hlo p (List.mem_of_getElem? hp)) (fun k k1 k2 => ?_)
        rw [up_ne 205 (by decide), g1 _ (by omega) (by omega)]
        congr 1
        omega
      refine E_mono ?_ (note_2 (μ := up μ2 203 2 (6 - 1)) (l := l.take 5) (hsh.kept (by rw [up_ne 204 (by decide), g2 204 (by decide)])) hok (by omega) (fun p hp => hlo p (List.mem_of_mem_take hp)) hP5 96 0 _ (by omega) (fun j j1 j2 => by omega) (fun j _ => rfl) (fun q _ => rfl))
      rintro v M ⟨hv, μ', hM, f1, f2, f3⟩
      refine ⟨hv, μ', hM, by rw [List.take_succ_cons]; exact f1, fun q q1 q2 => by rw [f2 q q1 q2, up_ne q (by omega), g2 q q2], fun j hj => by rw [f3 j hj, up_r, if_neg hj, g2 203 (by decide)]⟩
  · rw [List.take_of_length_le (by simp; omega)]
    refine E_aload_n dX11_note_0 rfl ?_
    refine GX11_57 sk_203 dX11_note_1 ?_
    refine E_bipush dX11_note_4 ?_
    refine E_icmp_ne 49 dX11_note_6 (fun h6 => ?_) (fun h6 => ?_)
    · -- 49
      refine E_iconst dX11_note_49 ?_
      refine E_istore_n dX11_note_50 ?_
      exact note_2 hsh hok (by omega) hlo hP 96 0 μ (by omega) (fun j j1 j2 => by omega) (fun j _ => rfl) (fun q _ => rfl)
    · -- 9
      exfalso; omega
def LaI (μ : Mem) (i : Int) (d : Sp) (k : Nat) (μ' : Mem) : Prop := (μ' 204 (16 * i) = d.1 ∧ μ' 204 (16 * i + 1) = d.2.1 ∧ μ' 204 (16 * i + 2) = d.2.2.1 ∧ μ' 204 (16 * i + 3) = d.2.2.2.length) ∧ (∀ (j : Nat) (x : Fib), j < k → d.2.2.2[j]? = some x → μ' 204 (16 * i + 4 + 2 * j) = x.1 ∧ μ' 204 (16 * i + 4 + 2 * j + 1) = x.2) ∧ (∀ z : Int, z < 16 * i ∨ 16 * i + 16 ≤ z → μ' 204 z = μ 204 z) ∧ ∀ q : Nat, q ≠ 204 → μ' q = μ q
theorem LaI.step {i u w : Int} {d : Sp} {k : Nat} {μ' : Mem} (h : LaI μ i d k μ') (hk : k < 6) (hx : ∀ x, d.2.2.2[k]? = some x → u = x.1 ∧ w = x.2) : LaI μ i d (k + 1) (up (up μ' 204 (16 * i + 4 + 2 * k) u) 204 (16 * i + 4 + 2 * k + 1) w) := by
  obtain ⟨⟨h1, h2, h3, h4⟩, h5, h6, h7⟩ := h
  refine ⟨⟨?_, ?_, ?_, ?_⟩, fun j x hj hx2 => ?_, fun z hz => ?_, fun q hq => ?_⟩
  · rw [up_r, if_neg (by omega), up_r, if_neg (by omega)]; exact h1
  · rw [up_r, if_neg (by omega), up_r, if_neg (by omega)]; exact h2
  · rw [up_r, if_neg (by omega), up_r, if_neg (by omega)]; exact h3
  · rw [up_r, if_neg (by omega), up_r, if_neg (by omega)]; exact h4
  · by_cases e : j = k
    · subst e
      obtain ⟨a, b⟩ := hx x hx2
      exact ⟨by rw [up_r, if_neg (by omega), up_r, if_pos rfl, a], by rw [up_r, if_pos rfl, b]⟩
    · obtain ⟨a, b⟩ := h5 j x (by omega) hx2
      exact ⟨by rw [up_r, if_neg (by omega), up_r, if_neg (by omega), a], by rw [up_r, if_neg (by omega), up_r, if_neg (by omega), b]⟩
  · rw [up_r, if_neg (by omega), up_r, if_neg (by omega)]; exact h6 z hz
  · rw [up_ne q hq, up_ne q hq]; exact h7 q hq
theorem lays_loop {i a : Int} {d : Sp} {P : Mem → Prop} (hi : isS i) (hl : d.2.2.2.length ≤ 6) (hd : RepB μ d) (hP : ∀ μ', LaI μ i d 6 μ' → P μ') : ∀ (t k : Nat) (μ' : Mem), k + t = 6 → LaI μ i d k μ' →
    E G mX11_lays (Zq G mX11_lays (V1 (vi a) P)) 0 0 97 [.ref 203, vi i, vi a, vi (16 * i), vi (k : Int)] [] (Hp μ')
  | 0, k, μ', hk, h => by
    have : k = 6 := by omega
    subst this
    refine E_iload dX11_lays_97 rfl ?_
    refine E_bipush dX11_lays_99 ?_
    refine E_icmp_ge 178 dX11_lays_101 (fun h101 => ?_) (fun h101 => ?_)
    · -- 178
      refine E_iload_n dX11_lays_178 rfl ?_
      refine E_iret dX11_lays_179 ?_
      exact ⟨rfl, _, rfl, hP _ h⟩
    · -- 104
      exfalso; omega
  | t + 1, k, μ', hk, h => by
    have j1 := hi.1
    have j2 := hi.2
    have e8 : μ' 203 8 = d.2.2.2.length := by rw [h.2.2.2 203 (by decide)]; exact hd.2.2.2.1
    have eA : μ' 208 = μ 208 := h.2.2.2 208 (by decide)
    have eB : μ' 209 = μ 209 := h.2.2.2 209 (by decide)
    have ih := lays_loop (a := a) hi hl hd hP t (k + 1)
    rw [show ((k + 1 : Nat) : Int) = (k : Int) + 1 by omega] at ih
    refine E_iload dX11_lays_97 rfl ?_
    refine E_bipush dX11_lays_99 ?_
    refine E_icmp_ge 178 dX11_lays_101 (fun h101 => ?_) (fun h101 => ?_)
    · -- 178
      exfalso; omega
    · -- 104
      refine E_aload_n dX11_lays_104 rfl ?_
      refine GX11_7 sk_203 dX11_lays_105 ?_
      refine E_iload_n dX11_lays_108 rfl ?_
      refine E_iconst dX11_lays_109 ?_
      refine E_iadd dX11_lays_110 ?_
      refine E_iconst dX11_lays_111 ?_
      refine E_iload dX11_lays_112 rfl ?_
      refine E_imul dX11_lays_114 ?_
      refine E_iadd dX11_lays_115 ?_
      refine E_iload dX11_lays_116 rfl ?_
      refine E_aload_n dX11_lays_118 rfl ?_
      refine GX11_76 sk_203 dX11_lays_119 ?_
      rw [e8]
      refine E_icmp_ge 135 dX11_lays_122 (fun h122 => ?_) (fun h122 => ?_)
      · -- 135
        refine E_iconst dX11_lays_135 ?_
        refine H_iast sk_204 dX11_lays_136 ?_
        refine E_aload_n dX11_lays_137 rfl ?_
        refine GX11_7 sk_203 dX11_lays_138 ?_
        refine E_iload_n dX11_lays_141 rfl ?_
        refine E_iconst dX11_lays_142 ?_
        refine E_iadd dX11_lays_143 ?_
        refine E_iconst dX11_lays_144 ?_
        refine E_iload dX11_lays_145 rfl ?_
        refine E_imul dX11_lays_147 ?_
        refine E_iadd dX11_lays_148 ?_
        refine E_iconst dX11_lays_149 ?_
        refine E_iadd dX11_lays_150 ?_
        refine E_iload dX11_lays_151 rfl ?_
        refine E_aload_n dX11_lays_153 rfl ?_
        refine GX11_76 sk_203 dX11_lays_154 ?_
        rw [up_ne 203 (by decide), e8]
        refine E_icmp_ge 170 dX11_lays_157 (fun h157 => ?_) (fun h157 => ?_)
        · -- 170
          refine E_iconst dX11_lays_170 ?_
          refine H_iast sk_204 dX11_lays_171 ?_
          refine E_iinc dX11_lays_172 rfl ?_
          refine E_goto 97 dX11_lays_175 ?_
          refine ih _ (by omega) (h.step (by omega) (fun x hx => ?_))
          have hkl : k < d.2.2.2.length := (List.getElem?_eq_some_iff.mp hx).1
          first | (exfalso; omega) | exact ⟨by rw [eA]; exact (hd.2.2.2.2 k x hx).1, by rw [up_ne 209 (by decide), eB]; exact (hd.2.2.2.2 k x hx).2⟩
        · -- 160
          refine E_aload_n dX11_lays_160 rfl ?_
          refine GX11_26 sk_203 dX11_lays_161 ?_
          refine E_iload dX11_lays_164 rfl ?_
          refine H_iald sk_209 dX11_lays_166 ?_
          refine E_goto 171 dX11_lays_167 ?_
          refine H_iast sk_204 dX11_lays_171 ?_
          refine E_iinc dX11_lays_172 rfl ?_
          refine E_goto 97 dX11_lays_175 ?_
          refine ih _ (by omega) (h.step (by omega) (fun x hx => ?_))
          have hkl : k < d.2.2.2.length := (List.getElem?_eq_some_iff.mp hx).1
          first | (exfalso; omega) | exact ⟨by rw [eA]; exact (hd.2.2.2.2 k x hx).1, by rw [up_ne 209 (by decide), eB]; exact (hd.2.2.2.2 k x hx).2⟩
      · -- 125
        refine E_aload_n dX11_lays_125 rfl ?_
        refine GX11_23 sk_203 dX11_lays_126 ?_
        refine E_iload dX11_lays_129 rfl ?_
        refine H_iald sk_208 dX11_lays_131 ?_
        refine E_goto 136 dX11_lays_132 ?_
        refine H_iast sk_204 dX11_lays_136 ?_
        refine E_aload_n dX11_lays_137 rfl ?_
        refine GX11_7 sk_203 dX11_lays_138 ?_
        refine E_iload_n dX11_lays_141 rfl ?_
        refine E_iconst dX11_lays_142 ?_
        refine E_iadd dX11_lays_143 ?_
        refine E_iconst dX11_lays_144 ?_
        refine E_iload dX11_lays_145 rfl ?_
        refine E_imul dX11_lays_147 ?_
        refine E_iadd dX11_lays_148 ?_
        refine E_iconst dX11_lays_149 ?_
        refine E_iadd dX11_lays_150 ?_
        refine E_iload dX11_lays_151 rfl ?_
        refine E_aload_n dX11_lays_153 rfl ?_
        refine GX11_76 sk_203 dX11_lays_154 ?_
        rw [up_ne 203 (by decide), e8]
        refine E_icmp_ge 170 dX11_lays_157 (fun h157 => ?_) (fun h157 => ?_)
        · -- 170
          refine E_iconst dX11_lays_170 ?_
          refine H_iast sk_204 dX11_lays_171 ?_
          refine E_iinc dX11_lays_172 rfl ?_
          refine E_goto 97 dX11_lays_175 ?_
          refine ih _ (by omega) (h.step (by omega) (fun x hx => ?_))
          have hkl : k < d.2.2.2.length := (List.getElem?_eq_some_iff.mp hx).1
          first | (exfalso; omega) | exact ⟨by rw [eA]; exact (hd.2.2.2.2 k x hx).1, by rw [up_ne 209 (by decide), eB]; exact (hd.2.2.2.2 k x hx).2⟩
        · -- 160
          refine E_aload_n dX11_lays_160 rfl ?_
          refine GX11_26 sk_203 dX11_lays_161 ?_
          refine E_iload dX11_lays_164 rfl ?_
          refine H_iald sk_209 dX11_lays_166 ?_
          refine E_goto 171 dX11_lays_167 ?_
          refine H_iast sk_204 dX11_lays_171 ?_
          refine E_iinc dX11_lays_172 rfl ?_
          refine E_goto 97 dX11_lays_175 ?_
          refine ih _ (by omega) (h.step (by omega) (fun x hx => ?_))
          have hkl : k < d.2.2.2.length := (List.getElem?_eq_some_iff.mp hx).1
          first | (exfalso; omega) | exact ⟨by rw [eA]; exact (hd.2.2.2.2 k x hx).1, by rw [up_ne 209 (by decide), eB]; exact (hd.2.2.2.2 k x hx).2⟩
theorem m_lays {i a : Int} {d : Sp} (hi : isS i) (hM : RepM μ σ) (hok : stOk σ) (hd : RepB μ d) (k1 : -2147483648 < d.2.2.1 ∧ d.2.2.1 < 2147483648) (k2 : 0 ≤ d.2.1 ∧ d.2.1 < 1000) (k3 : d.2.2.2.length ≤ 20) : Ctr G mX11_lays [.ref 203, vi i, vi a] (Hp μ) (NQ μ (sSettle σ i d a)) := by
  refine Ctr.of ?_
  have j1 := hi.1
  have j2 := hi.2
  obtain ⟨b1, b2, b3, b4, b5⟩ := id hd
  have hin := m_in (G := G) (M := Hp μ) (v := d.2.2.1) (lo := -999) (hi := 999) (by omega) (by omega) (by omega)
  by_cases hf : fitD d
  · rw [show sSettle σ i d a = (a, setSh σ.1 i.toNat d, (σ.1 :: σ.2.1).take 6, σ.2.2) from cif_pos hf]
    obtain ⟨f1, f2, f3, f4⟩ := id hf
    rw [cif_pos ⟨f3, f4⟩] at hin
    obtain ⟨hM1, hM2, hM3, hM4, hM5, hM6⟩ := hM
    refine E_aload_n dX11_lays_0 rfl ?_
    refine GX11_76 sk_203 dX11_lays_1 ?_
    rw [b4]
    refine E_bipush dX11_lays_4 ?_
    refine E_icmp_gt 34 dX11_lays_6 (fun h6 => ?_) (fun h6 => ?_)
    · -- 34
      first | exact absurd h31 (by decide) | (exfalso; omega)
    · -- 9
      refine E_aload_n dX11_lays_9 rfl ?_
      refine GX11_70 sk_203 dX11_lays_10 ?_
      rw [b2]
      refine E_iconst dX11_lays_13 ?_
      refine E_icmp_gt 34 dX11_lays_14 (fun h14 => ?_) (fun h14 => ?_)
      · -- 34
        first | exact absurd h31 (by decide) | (exfalso; omega)
      · -- 17
        refine E_aload_n dX11_lays_17 rfl ?_
        refine GX11_73 sk_203 dX11_lays_18 ?_
        rw [b3]
        refine E_i2l dX11_lays_21 ?_
        refine E_ldc2 dX11_lays_22 coX11_83 ?_
        refine E_ldc2 dX11_lays_25 coX11_85 ?_
        refine E_callSR dX11_lays_28 lkX11_63 (hin) ?_
        refine E_if_ne 37 dX11_lays_31 (fun h31 => ?_) (fun h31 => ?_)
        · -- 37
          refine E_aload_n dX11_lays_37 rfl ?_
          refine E_callVV dX11_lays_38 lkX11_87 (Hp_get sk_203) (m_note hM1 hok.1 hok.2.2.1 hok.2.1 hM2) ?_
          rintro μ1 ⟨g1, g2⟩
          have c5 : μ1 203 5 = d.1 := by rw [g2.2 5 (by decide)]; exact b1
          have c6 : μ1 203 6 = d.2.1 := by rw [g2.2 6 (by decide)]; exact b2
          have c7 : μ1 203 7 = d.2.2.1 := by rw [g2.2 7 (by decide)]; exact b3
          have c8 : μ1 203 8 = d.2.2.2.length := by rw [g2.2 8 (by decide)]; exact b4
          have hB : RepB μ1 d := ⟨c5, c6, c7, c8, b5.kept (g2.1 208 (by decide) (by decide)) (g2.1 209 (by decide) (by decide))⟩
          refine E_bipush dX11_lays_41 ?_
          refine E_iload_n dX11_lays_43 rfl ?_
          refine E_imul dX11_lays_44 ?_
          refine E_istore_n dX11_lays_45 ?_
          refine E_aload_n dX11_lays_46 rfl ?_
          refine GX11_7 sk_203 dX11_lays_47 ?_
          refine E_iload_n dX11_lays_50 rfl ?_
          refine E_iconst dX11_lays_51 ?_
          refine E_iadd dX11_lays_52 ?_
          refine E_aload_n dX11_lays_53 rfl ?_
          refine GX11_67 sk_203 dX11_lays_54 ?_
          rw [Int.add_zero, c5]
          refine H_iast sk_204 dX11_lays_57 ?_
          refine E_aload_n dX11_lays_58 rfl ?_
          refine GX11_7 sk_203 dX11_lays_59 ?_
          refine E_iload_n dX11_lays_62 rfl ?_
          refine E_iconst dX11_lays_63 ?_
          refine E_iadd dX11_lays_64 ?_
          refine E_aload_n dX11_lays_65 rfl ?_
          refine GX11_70 sk_203 dX11_lays_66 ?_
          rw [up_ne 203 (by decide), c6]
          refine H_iast sk_204 dX11_lays_69 ?_
          refine E_aload_n dX11_lays_70 rfl ?_
          refine GX11_7 sk_203 dX11_lays_71 ?_
          refine E_iload_n dX11_lays_74 rfl ?_
          refine E_iconst dX11_lays_75 ?_
          refine E_iadd dX11_lays_76 ?_
          refine E_aload_n dX11_lays_77 rfl ?_
          refine GX11_73 sk_203 dX11_lays_78 ?_
          rw [up_ne 203 (by decide), up_ne 203 (by decide), c7]
          refine H_iast sk_204 dX11_lays_81 ?_
          refine E_aload_n dX11_lays_82 rfl ?_
          refine GX11_7 sk_203 dX11_lays_83 ?_
          refine E_iload_n dX11_lays_86 rfl ?_
          refine E_iconst dX11_lays_87 ?_
          refine E_iadd dX11_lays_88 ?_
          refine E_aload_n dX11_lays_89 rfl ?_
          refine GX11_76 sk_203 dX11_lays_90 ?_
          rw [up_ne 203 (by decide), up_ne 203 (by decide), up_ne 203 (by decide), c8]
          refine H_iast sk_204 dX11_lays_93 ?_
          refine E_iconst dX11_lays_94 ?_
          refine E_istore dX11_lays_95 ?_
          refine E_mono ?_ (lays_loop (μ := μ1) (P := fun μ' => LaI μ1 i d 6 μ') hi f1 hB (fun _ h => h) 6 0 _ (by omega) ⟨⟨?_, ?_, ?_, ?_⟩, fun j x hj => by omega, fun z hz => ?_, fun q hq => ?_⟩)
          · rintro v M ⟨hv, μ', hM', ⟨l1, l2, l3, l4⟩, l5, l6, l7⟩
            have e204 : μ1 204 = μ 204 := g2.1 204 (by decide) (by decide)
            have e : ∀ q : Nat, q ≠ 203 → q ≠ 205 → q ≠ 204 → μ' q = μ q := fun q q1 q2 q3 => by rw [l7 q q3, g2.1 q q1 q2]
            refine ⟨hv, μ', hM', ⟨fun k hk => ?_, g1.kept (by rw [l7 203 (by decide)]) (l7 205 (by decide)), hM3.kept (e 206 (by decide) (by decide) (by decide)) (e 207 (by decide) (by decide) (by decide)), hM4.kept (by rw [l7 203 (by decide), g2.2 12 (by decide)]) (e 210 (by decide) (by decide) (by decide)), hM5.kept (by rw [l7 203 (by decide), g2.2 28 (by decide)]) (e 216 (by decide) (by decide) (by decide)) (e 217 (by decide) (by decide) (by decide)), by rw [e 215 (by decide) (by decide) (by decide)]; exact hM6⟩, fun q hq => e q (by omega) (by omega) (by omega)⟩
            simp only [setSh]
            split
            · next ek =>
              rw [show (0 : Int) + 16 * (k : Int) = 16 * i by omega]
              exact ⟨l1, l2, l3, l4, fun j x hx => l5 j x (by have := (List.getElem?_eq_some_iff.mp hx).1; omega) hx⟩
            · next ek =>
              refine (hM1 k hk).move (hok.1 k hk).2.2.2.2.2.1 (fun z z1 z2 => ?_)
              rw [l6 _ (by omega), e204]
          · rw [up_r, if_neg (by omega), up_r, if_neg (by omega), up_r, if_neg (by omega), up_r, if_pos rfl]
          · rw [up_r, if_neg (by omega), up_r, if_neg (by omega), up_r, if_pos rfl]
          · rw [up_r, if_neg (by omega), up_r, if_pos rfl]
          · rw [up_r, if_pos rfl]
          · rw [up_r, if_neg (by omega), up_r, if_neg (by omega), up_r, if_neg (by omega), up_r, if_neg (by omega)]
          · rw [up_ne q hq, up_ne q hq, up_ne q hq, up_ne q hq]
        · -- 34
          first | exact absurd h31 (by decide) | (exfalso; omega)
  · rw [show sSettle σ i d a = (-3, σ) from cif_neg hf]
    by_cases f3 : -999 ≤ d.2.2.1 ∧ d.2.2.1 ≤ 999
    · rw [cif_pos f3] at hin
      have f4 : 6 < d.2.2.2.length ∨ 4 < d.2.1 := by
        rcases Nat.lt_or_ge 6 d.2.2.2.length with h | h
        · exact Or.inl h
        · rcases (show d.2.1 ≤ 4 ∨ 4 < d.2.1 by omega) with h' | h'
          · exact absurd ⟨h, h', f3.1, f3.2⟩ hf
          · exact Or.inr h'
      refine E_aload_n dX11_lays_0 rfl ?_
      refine GX11_76 sk_203 dX11_lays_1 ?_
      rw [b4]
      refine E_bipush dX11_lays_4 ?_
      refine E_icmp_gt 34 dX11_lays_6 (fun h6 => ?_) (fun h6 => ?_)
      · -- 34
        refine E_bipush dX11_lays_34 ?_
        refine E_iret dX11_lays_36 ?_
        exact ⟨rfl, _, rfl, hM, fun _ _ => rfl⟩
      · -- 9
        refine E_aload_n dX11_lays_9 rfl ?_
        refine GX11_70 sk_203 dX11_lays_10 ?_
        rw [b2]
        refine E_iconst dX11_lays_13 ?_
        refine E_icmp_gt 34 dX11_lays_14 (fun h14 => ?_) (fun h14 => ?_)
        · -- 34
          refine E_bipush dX11_lays_34 ?_
          refine E_iret dX11_lays_36 ?_
          exact ⟨rfl, _, rfl, hM, fun _ _ => rfl⟩
        · -- 17
          exfalso; omega
    · rw [cif_neg f3] at hin
      refine E_aload_n dX11_lays_0 rfl ?_
      refine GX11_76 sk_203 dX11_lays_1 ?_
      rw [b4]
      refine E_bipush dX11_lays_4 ?_
      refine E_icmp_gt 34 dX11_lays_6 (fun h6 => ?_) (fun h6 => ?_)
      · -- 34
        refine E_bipush dX11_lays_34 ?_
        refine E_iret dX11_lays_36 ?_
        exact ⟨rfl, _, rfl, hM, fun _ _ => rfl⟩
      · -- 9
        refine E_aload_n dX11_lays_9 rfl ?_
        refine GX11_70 sk_203 dX11_lays_10 ?_
        rw [b2]
        refine E_iconst dX11_lays_13 ?_
        refine E_icmp_gt 34 dX11_lays_14 (fun h14 => ?_) (fun h14 => ?_)
        · -- 34
          refine E_bipush dX11_lays_34 ?_
          refine E_iret dX11_lays_36 ?_
          exact ⟨rfl, _, rfl, hM, fun _ _ => rfl⟩
        · -- 17
          refine E_aload_n dX11_lays_17 rfl ?_
          refine GX11_73 sk_203 dX11_lays_18 ?_
          rw [b3]
          refine E_i2l dX11_lays_21 ?_
          refine E_ldc2 dX11_lays_22 coX11_83 ?_
          refine E_ldc2 dX11_lays_25 coX11_85 ?_
          refine E_callSR dX11_lays_28 lkX11_63 (hin) ?_
          refine E_if_ne 37 dX11_lays_31 (fun h31 => ?_) (fun h31 => ?_)
          · -- 37
            exact absurd rfl h31
          · -- 34
            refine E_bipush dX11_lays_34 ?_
            refine E_iret dX11_lays_36 ?_
            exact ⟨rfl, _, rfl, hM, fun _ _ => rfl⟩
end MLAYS
