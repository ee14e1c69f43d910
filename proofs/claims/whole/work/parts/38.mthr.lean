/-! FibredSpacesModel: threes -/
def ThZ (μ μ' : Mem) : Prop := (∀ j : Int, 0 ≤ j → j < 12 → μ' 215 j = 0) ∧ ∀ q : Nat, q ≠ 214 → q ≠ 215 → μ' q = μ q
theorem ThZ.tr {μ μ1 μ2 : Mem} (h : ThZ μ μ1) (h' : ThZ μ1 μ2) : ThZ μ μ2 := ⟨h'.1, fun q a b => by rw [h'.2 q a b, h.2 q a b]⟩
theorem ThZ.now {μ μ' : Mem} (h : ThZ μ μ') : μ' 204 = μ 204 := h.2 204 (by decide) (by decide)
theorem ThZ.m {μ μ' : Mem} {σ : St} (h : ThZ μ μ') (hM : RepM μ σ) : RepM μ' σ := by
  have e : ∀ q : Nat, q ≠ 214 → q ≠ 215 → μ' q = μ q := h.2
  have e0 : μ' 203 = μ 203 := e 203 (by decide) (by decide)
  obtain ⟨h1, h2, h3, h4, h5, h6⟩ := hM
  exact ⟨h1.kept (e 204 (by decide) (by decide)), h2.kept (by rw [e0]) (e 205 (by decide) (by decide)), h3.kept (e 206 (by decide) (by decide)) (e 207 (by decide) (by decide)), h4.kept (by rw [e0]) (e 210 (by decide) (by decide)), h5.kept (by rw [e0]) (e 216 (by decide) (by decide)) (e 217 (by decide) (by decide)), h.1⟩
theorem Giv.take {μ μ1 μ2 μ3 : Mem} {w : Int → Int} {L : List Int} (h : ThZ μ μ1) (hw : eq6 (μ1 214) w) (hg : Giv μ1 L μ2) (ht : TakT μ2 6 μ3) : ThZ μ μ3 ∧ eq6 (μ3 214) (stp w L) := by
  obtain ⟨a1, a2, a3⟩ := hg
  obtain ⟨b1, b2, b3⟩ := ht
  refine ⟨⟨fun j j0 j1 => ?_, fun q q1 q2 => by rw [b3 q q1 q2, a3 q q2, h.2 q q1 q2]⟩, fun z z0 z6 => ?_⟩
  · by_cases e : j < 6
    · exact (b1 j j0 (by omega)).2
    · rw [b2 j (by omega), a2 j (by omega)]; exact h.1 j j0 j1
  · rw [(b1 z z0 (by omega)).1, a1 z z0 z6, h.1 z z0 (by omega), Int.zero_add]
    exact stp_congr hw L z
section MTHR
variable {G : GT} {μ : Mem} {M : HV} {σ : St}
theorem th_q {i h kd sm : Int} {s : Sp} {Q : QT} {n : Nat} {x : Fib} {μ1 : Mem} (hi : isS i) (hs : RepN μ1 204 (16 * i) s) (hok : spOk s) (hh : 0 ≤ h ∧ h < 6) (hn : n < 6) (hx : s.2.2.2[n]? = some x) (hk : ∀ μ2 : Mem, Giv μ1 (fibL h x.1 x.2) μ2 → E G mX11_threes (Zq G mX11_threes Q) 0 0 115 [.ref 203, vi i, vi kd, vl sm, .retAddr 0, vi h, vi (n : Int), vi 6] [] (Hp μ2)) : ∀ (t k : Nat) (μ' : Mem), k + t = 6 → Giv μ1 (lst (okF h x.1 x.2) k) μ' →
    E G mX11_threes (Zq G mX11_threes Q) 0 0 55 [.ref 203, vi i, vi kd, vl sm, .retAddr 0, vi h, vi (n : Int), vi (k : Int)] [] (Hp μ')
  | 0, k, μ', e1, h1 => by
    have : k = 6 := by omega
    subst this
    refine E_iload dX11_threes_55 rfl ?_
    refine E_bipush dX11_threes_57 ?_
    refine E_icmp_ge 115 dX11_threes_59 (fun h59 => ?_) (fun h59 => ?_)
    · -- 115
      exact hk μ' h1
    · -- 62
      exfalso; omega
  | t + 1, k, μ', e1, h1 => by
    have ih := th_q hi hs hok hh hn hx hk t (k + 1)
    rw [show ((k + 1 : Nat) : Int) = (k : Int) + 1 by omega] at ih
    have kr : 0 ≤ (k : Int) ∧ (k : Int) < 6 := by omega
    obtain ⟨x1, x2, x3, x4, -⟩ := hok.2.2.2.2.2.2 x (List.mem_of_getElem? hx)
    have hs' := hs.kept (h1.2.2 204 (by decide))
    have hck := m_commute (G := G) (M := Hp μ') kr hh
    have r1 := tm_rng (x := pw k x.1) (y := pw h x.2)
    by_cases q1 : tm k h = tm h k
    · rw [if_pos q1] at hck
      by_cases q2 : tm (pw k x.1) (pw h x.2) = 0
      · have e : lst (okF h x.1 x.2) (k + 1) = lst (okF h x.1 x.2) k ++ [(k : Int)] := by rw [lst, show okF h x.1 x.2 k = [(k : Int)] from if_pos ⟨q1, q2⟩]
        rw [e] at ih
        refine E_iload dX11_threes_55 rfl ?_
        refine E_bipush dX11_threes_57 ?_
        refine E_icmp_ge 115 dX11_threes_59 (fun h59 => ?_) (fun h59 => ?_)
        · -- 115
          exfalso; omega
        · -- 62
          refine E_iload dX11_threes_62 rfl ?_
          refine E_iload dX11_threes_64 rfl ?_
          refine E_callSR dX11_threes_66 lkX11_267 (hck) ?_
          refine E_if_eq 109 dX11_threes_69 (fun h69 => ?_) (fun h69 => ?_)
          · -- 109
            refine E_iinc dX11_threes_109 rfl ?_
            refine E_goto 55 dX11_threes_112 ?_
            first | (exfalso; omega) | exact ih μ2 (by omega) (h1.tr g2)
          · -- 72
            refine E_iload dX11_threes_72 rfl ?_
            refine E_aload_n dX11_threes_74 rfl ?_
            refine E_iload_n dX11_threes_75 rfl ?_
            refine E_iload dX11_threes_76 rfl ?_
            refine E_callVR dX11_threes_78 lkX11_90 (Hp_get sk_203) (m_a hi hs' hn hx) ?_
            refine E_callSR dX11_threes_81 lkX11_270 (m_power (e := x.1) kr (by omega)) ?_
            refine E_iload dX11_threes_84 rfl ?_
            refine E_aload_n dX11_threes_86 rfl ?_
            refine E_iload_n dX11_threes_87 rfl ?_
            refine E_iload dX11_threes_88 rfl ?_
            refine E_callVR dX11_threes_90 lkX11_93 (Hp_get sk_203) (m_b hi hs' hn hx) ?_
            refine E_callSR dX11_threes_93 lkX11_270 (m_power (e := x.2) hh (by omega)) ?_
            refine E_callSR dX11_threes_96 lkX11_264 (m_times pw_rng pw_rng) ?_
            refine E_if_ne 109 dX11_threes_99 (fun h99 => ?_) (fun h99 => ?_)
            · -- 109
              refine E_iinc dX11_threes_109 rfl ?_
              refine E_goto 55 dX11_threes_112 ?_
              first | (exfalso; omega) | exact ih μ2 (by omega) (h1.tr g2)
            · -- 102
              refine E_aload_n dX11_threes_102 rfl ?_
              refine E_iload dX11_threes_103 rfl ?_
              refine E_lconst1 dX11_threes_105 ?_
              refine E_callVV dX11_threes_106 lkX11_273 (Hp_get sk_203) (m_give kr) ?_
              rintro μ2 g2
              refine E_iinc dX11_threes_109 rfl ?_
              refine E_goto 55 dX11_threes_112 ?_
              first | (exfalso; omega) | exact ih μ2 (by omega) (h1.tr g2)
      · have e : lst (okF h x.1 x.2) (k + 1) = lst (okF h x.1 x.2) k := by rw [lst, show okF h x.1 x.2 k = [] from if_neg (fun h => q2 h.2), List.append_nil]
        rw [e] at ih
        refine E_iload dX11_threes_55 rfl ?_
        refine E_bipush dX11_threes_57 ?_
        refine E_icmp_ge 115 dX11_threes_59 (fun h59 => ?_) (fun h59 => ?_)
        · -- 115
          exfalso; omega
        · -- 62
          refine E_iload dX11_threes_62 rfl ?_
          refine E_iload dX11_threes_64 rfl ?_
          refine E_callSR dX11_threes_66 lkX11_267 (hck) ?_
          refine E_if_eq 109 dX11_threes_69 (fun h69 => ?_) (fun h69 => ?_)
          · -- 109
            refine E_iinc dX11_threes_109 rfl ?_
            refine E_goto 55 dX11_threes_112 ?_
            first | (exfalso; omega) | exact ih μ' (by omega) h1
          · -- 72
            refine E_iload dX11_threes_72 rfl ?_
            refine E_aload_n dX11_threes_74 rfl ?_
            refine E_iload_n dX11_threes_75 rfl ?_
            refine E_iload dX11_threes_76 rfl ?_
            refine E_callVR dX11_threes_78 lkX11_90 (Hp_get sk_203) (m_a hi hs' hn hx) ?_
            refine E_callSR dX11_threes_81 lkX11_270 (m_power (e := x.1) kr (by omega)) ?_
            refine E_iload dX11_threes_84 rfl ?_
            refine E_aload_n dX11_threes_86 rfl ?_
            refine E_iload_n dX11_threes_87 rfl ?_
            refine E_iload dX11_threes_88 rfl ?_
            refine E_callVR dX11_threes_90 lkX11_93 (Hp_get sk_203) (m_b hi hs' hn hx) ?_
            refine E_callSR dX11_threes_93 lkX11_270 (m_power (e := x.2) hh (by omega)) ?_
            refine E_callSR dX11_threes_96 lkX11_264 (m_times pw_rng pw_rng) ?_
            refine E_if_ne 109 dX11_threes_99 (fun h99 => ?_) (fun h99 => ?_)
            · -- 109
              refine E_iinc dX11_threes_109 rfl ?_
              refine E_goto 55 dX11_threes_112 ?_
              first | (exfalso; omega) | exact ih μ' (by omega) h1
            · -- 102
              exfalso; omega
    · rw [if_neg q1] at hck
      have e : lst (okF h x.1 x.2) (k + 1) = lst (okF h x.1 x.2) k := by rw [lst, show okF h x.1 x.2 k = [] from if_neg (fun h => q1 h.1), List.append_nil]
      rw [e] at ih
      refine E_iload dX11_threes_55 rfl ?_
      refine E_bipush dX11_threes_57 ?_
      refine E_icmp_ge 115 dX11_threes_59 (fun h59 => ?_) (fun h59 => ?_)
      · -- 115
        exfalso; omega
      · -- 62
        refine E_iload dX11_threes_62 rfl ?_
        refine E_iload dX11_threes_64 rfl ?_
        refine E_callSR dX11_threes_66 lkX11_267 (hck) ?_
        refine E_if_eq 109 dX11_threes_69 (fun h69 => ?_) (fun h69 => ?_)
        · -- 109
          refine E_iinc dX11_threes_109 rfl ?_
          refine E_goto 55 dX11_threes_112 ?_
          exact ih μ' (by omega) h1
        · -- 72
          exfalso; omega
theorem th_fib {i h kd sm : Int} {s : Sp} {Q : QT} {W : Int → Int} (hi : isS i) (hs : RepN μ 204 (16 * i) s) (hok : spOk s) (hh : 0 ≤ h ∧ h < 6) (hk : ∀ (μ2 : Mem) (w6 w7 : Value), ThZ μ μ2 → eq6 (μ2 214) W → E G mX11_threes (Zq G mX11_threes Q) 0 0 127 [.ref 203, vi i, vi kd, vl sm, .retAddr 0, vi h, w6, w7] [] (Hp μ2)) : ∀ (q p : List Fib) (w : Int → Int) (μ' : Mem) (w7 : Value), p ++ q = s.2.2.2 → wayF h q w = W → eq6 (μ' 214) w → ThZ μ μ' →
    E G mX11_threes (Zq G mX11_threes Q) 0 0 42 [.ref 203, vi i, vi kd, vl sm, .retAddr 0, vi h, vi (p.length : Int), w7] [] (Hp μ') := by
  have hb := hok.2.2.2.2.2.1
  intro q
  induction q with
  | nil =>
    intro p w μ' w7 h1 h2 h3 h4
    have hs' := hs.kept h4.now
    have hp : p.length = s.2.2.2.length := by rw [← h1]; simp
    refine E_iload dX11_threes_42 rfl ?_
    refine E_aload_n dX11_threes_44 rfl ?_
    refine E_iload_n dX11_threes_45 rfl ?_
    refine E_callVR dX11_threes_46 lkX11_100 (Hp_get sk_203) (m_fibres hi hs') ?_
    refine E_icmp_ge 127 dX11_threes_49 (fun h49 => ?_) (fun h49 => ?_)
    · -- 127
      exact hk μ' _ _ h4 (by rw [← h2]; exact h3)
    · -- 52
      exfalso; omega
  | cons x q ih =>
    intro p w μ' w7 h1 h2 h3 h4
    have hs' := hs.kept h4.now
    have hp : p.length + 1 + q.length = s.2.2.2.length := by rw [← h1]; simp; omega
    have hx : s.2.2.2[p.length]? = some x := by rw [← h1]; simp
    refine E_iload dX11_threes_42 rfl ?_
    refine E_aload_n dX11_threes_44 rfl ?_
    refine E_iload_n dX11_threes_45 rfl ?_
    refine E_callVR dX11_threes_46 lkX11_100 (Hp_get sk_203) (m_fibres hi hs') ?_
    refine E_icmp_ge 127 dX11_threes_49 (fun h49 => ?_) (fun h49 => ?_)
    · -- 127
      exfalso; omega
    · -- 52
      refine E_iconst dX11_threes_52 ?_
      refine E_istore dX11_threes_53 ?_
      refine th_q (μ1 := μ') hi hs' hok hh (by omega) hx (fun μ2 g => ?_) 6 0 μ' (by omega) Giv.rf
      refine E_aload_n dX11_threes_115 rfl (E_bipush dX11_threes_116 (E_callVV dX11_threes_118 lkX11_261 (Hp_get sk_203) (m_takeThen (m := 6) (by omega)) (fun μ3 g3 => ?_)))
      obtain ⟨c1, c2⟩ := Giv.take h4 h3 g g3
      have t := ih (p ++ [x]) (stp w (fibL h x.1 x.2)) μ3 (vi 6) (by rw [← h1]; simp) h2 c2 c1
      rw [show ((p ++ [x]).length : Int) = (p.length : Int) + 1 by simp] at t
      exact E_iinc dX11_threes_121 rfl (E_goto 42 dX11_threes_124 t)
theorem th_gen {i h kd sm : Int} {s : Sp} {Q : QT} {W : Int → Int} {L : List Int} (hi : isS i) (hs : RepN μ 204 (16 * i) s) (hok : spOk s) (hh : 0 ≤ h ∧ h < 6) (hL : (kd = 0 ∧ L = hanL h) ∨ (kd = 1 ∧ L = croL h)) (hk : ∀ (μ2 : Mem) (w6 w7 : Value), ThZ μ μ2 → eq6 (μ2 214) W → E G mX11_threes (Zq G mX11_threes Q) 0 0 177 [.ref 203, vi i, vi kd, vl sm, .retAddr 0, vi h, w6, w7] [] (Hp μ2)) : ∀ (t k : Nat) (w : Int → Int) (μ' : Mem) (w7 : Value), (k : Int) + t = s.2.1 → wayG L t w = W → eq6 (μ' 214) w → ThZ μ μ' →
    E G mX11_threes (Zq G mX11_threes Q) 0 0 130 [.ref 203, vi i, vi kd, vl sm, .retAddr 0, vi h, vi (k : Int), w7] [] (Hp μ')
  | 0, k, w, μ', w7, h1, h2, h3, h4 => by
    have hs' := hs.kept h4.now
    have hg := hok.2.2.1
    have j1 := hi.1
    have j2 := hi.2
    refine E_iload dX11_threes_130 rfl ?_
    refine E_aload_n dX11_threes_132 rfl ?_
    refine GX11_7 sk_203 dX11_threes_133 ?_
    refine E_bipush dX11_threes_136 ?_
    refine E_iload_n dX11_threes_138 rfl ?_
    refine E_imul dX11_threes_139 ?_
    refine E_iconst dX11_threes_140 ?_
    refine E_iadd dX11_threes_141 ?_
    refine H_iald sk_204 dX11_threes_142 ?_
    rw [hs'.2.1]
    refine E_icmp_ge 177 dX11_threes_143 (fun h143 => ?_) (fun h143 => ?_)
    · -- 177
      exact hk μ' _ _ h4 (by rw [← h2]; exact h3)
    · -- 146
      exfalso; omega
  | t + 1, k, w, μ', w7, h1, h2, h3, h4 => by
    have hs' := hs.kept h4.now
    have hg := hok.2.2.1
    have j1 := hi.1
    have j2 := hi.2
    have ih := th_gen hi hs hok hh hL hk t (k + 1)
    rw [show ((k + 1 : Nat) : Int) = (k : Int) + 1 by omega] at ih
    rcases hL with ⟨rfl, rfl⟩ | ⟨rfl, rfl⟩
    · skip
      refine E_iload dX11_threes_130 rfl ?_
      refine E_aload_n dX11_threes_132 rfl ?_
      refine GX11_7 sk_203 dX11_threes_133 ?_
      refine E_bipush dX11_threes_136 ?_
      refine E_iload_n dX11_threes_138 rfl ?_
      refine E_imul dX11_threes_139 ?_
      refine E_iconst dX11_threes_140 ?_
      refine E_iadd dX11_threes_141 ?_
      refine H_iald sk_204 dX11_threes_142 ?_
      rw [hs'.2.1]
      refine E_icmp_ge 177 dX11_threes_143 (fun h143 => ?_) (fun h143 => ?_)
      · -- 177
        exfalso; omega
      · -- 146
        refine E_iload_n dX11_threes_146 rfl ?_
        refine E_if_ne 159 dX11_threes_147 (fun h147 => ?_) (fun h147 => ?_)
        · -- 159
          exact absurd rfl h147
        · -- 150
          refine E_aload_n dX11_threes_150 rfl ?_
          refine E_iload dX11_threes_151 rfl ?_
          refine E_callVV dX11_threes_153 lkX11_277 (Hp_get sk_203) (m_giveTwo hh) ?_
          rintro μ2 g
          refine E_goto 165 dX11_threes_156 ?_
          refine E_aload_n dX11_threes_165 rfl ?_
          refine E_bipush dX11_threes_166 ?_
          refine E_callVV dX11_threes_168 lkX11_261 (Hp_get sk_203) (m_takeThen (m := 6) (by omega)) ?_
          rintro μ3 g3
          obtain ⟨c1, c2⟩ := Giv.take h4 h3 g g3
          refine E_iinc dX11_threes_171 rfl ?_
          refine E_goto 130 dX11_threes_174 ?_
          exact ih (stp w (hanL h)) μ3 _ (by omega) h2 c2 c1
    · skip
      refine E_iload dX11_threes_130 rfl ?_
      refine E_aload_n dX11_threes_132 rfl ?_
      refine GX11_7 sk_203 dX11_threes_133 ?_
      refine E_bipush dX11_threes_136 ?_
      refine E_iload_n dX11_threes_138 rfl ?_
      refine E_imul dX11_threes_139 ?_
      refine E_iconst dX11_threes_140 ?_
      refine E_iadd dX11_threes_141 ?_
      refine H_iald sk_204 dX11_threes_142 ?_
      rw [hs'.2.1]
      refine E_icmp_ge 177 dX11_threes_143 (fun h143 => ?_) (fun h143 => ?_)
      · -- 177
        exfalso; omega
      · -- 146
        refine E_iload_n dX11_threes_146 rfl ?_
        refine E_if_ne 159 dX11_threes_147 (fun h147 => ?_) (fun h147 => ?_)
        · -- 159
          refine E_aload_n dX11_threes_159 rfl ?_
          refine E_iload dX11_threes_160 rfl ?_
          refine E_callVV dX11_threes_162 lkX11_280 (Hp_get sk_203) (m_giveOne hh) ?_
          rintro μ2 g
          refine E_aload_n dX11_threes_165 rfl ?_
          refine E_bipush dX11_threes_166 ?_
          refine E_callVV dX11_threes_168 lkX11_261 (Hp_get sk_203) (m_takeThen (m := 6) (by omega)) ?_
          rintro μ3 g3
          obtain ⟨c1, c2⟩ := Giv.take h4 h3 g g3
          refine E_iinc dX11_threes_171 rfl ?_
          refine E_goto 130 dX11_threes_174 ?_
          exact ih (stp w (croL h)) μ3 _ (by omega) h2 c2 c1
        · -- 150
          exact absurd h147 (by decide)
theorem th_tail {i h kd sm : Int} {s : Sp} {Q : QT} {W : Int → Int} {w6 w7 : Value} (hi : isS i) (hs : RepN μ 204 (16 * i) s) (hok : spOk s) (hh : 0 ≤ h ∧ h < 6) (hW : eq6 (μ 214) W) (hk : E G mX11_threes (Zq G mX11_threes Q) 0 0 28 [.ref 203, vi i, vi kd, vl (sm + W (pw h s.2.2.1)), .retAddr 0, vi (h + 1), w6, w7] [] (Hp μ)) :
    E G mX11_threes (Zq G mX11_threes Q) 0 0 177 [.ref 203, vi i, vi kd, vl sm, .retAddr 0, vi h, w6, w7] [] (Hp μ) := by
  have j1 := hi.1
  have j2 := hi.2
  obtain ⟨o0, o1, o2, o3, o4, o5, o6⟩ := id hok
  have hp := pw_rng (x := h) (e := s.2.2.1)
  refine E_lload_n dX11_threes_177 rfl ?_
  refine E_aload_n dX11_threes_178 rfl ?_
  refine GX11_42 sk_203 dX11_threes_179 ?_
  refine E_iload dX11_threes_182 rfl ?_
  refine E_aload_n dX11_threes_184 rfl ?_
  refine GX11_7 sk_203 dX11_threes_185 ?_
  refine E_bipush dX11_threes_188 ?_
  refine E_iload_n dX11_threes_190 rfl ?_
  refine E_imul dX11_threes_191 ?_
  refine E_iconst dX11_threes_192 ?_
  refine E_iadd dX11_threes_193 ?_
  refine H_iald sk_204 dX11_threes_194 ?_
  rw [hs.2.2.1]
  refine E_callSR dX11_threes_195 lkX11_270 (m_power (e := s.2.2.1) hh (by omega)) ?_
  refine H_lald sk_214 dX11_threes_198 ?_
  rw [hW _ hp.1 hp.2]
  refine E_ladd dX11_threes_199 ?_
  refine E_lstore_n dX11_threes_200 ?_
  refine E_iinc dX11_threes_201 rfl ?_
  refine E_goto 28 dX11_threes_204 ?_
  exact hk
theorem th_h {i : Int} {s : Sp} (hi : isS i) (hs : RepN μ 204 (16 * i) s) (hok : spOk s) : ∀ (t k : Nat) (μ' : Mem) (w6 w7 : Value), k + t = 6 → ThZ μ μ' →
    E G mX11_threes (Zq G mX11_threes (V1 (vl (threeS s)) (ThZ μ))) 0 0 28 [.ref 203, vi i, vi s.1, vl (sumN k (fun h => wayS h s)), .retAddr 0, vi (k : Int), w6, w7] [] (Hp μ')
  | 0, k, μ', w6, w7, e1, h1 => by
    have : k = 6 := by omega
    subst this
    refine E_iload dX11_threes_28 rfl ?_
    refine E_bipush dX11_threes_30 ?_
    refine E_icmp_ge 207 dX11_threes_32 (fun h32 => ?_) (fun h32 => ?_)
    · -- 207
      refine E_lload_n dX11_threes_207 rfl ?_
      refine E_lret dX11_threes_208 ?_
      exact ⟨rfl, _, rfl, h1⟩
    · -- 35
      exfalso; omega
  | t + 1, k, μ', w6, w7, e1, h1 => by
    have ih := th_h hi hs hok t (k + 1)
    rw [show ((k + 1 : Nat) : Int) = (k : Int) + 1 by omega] at ih
    have hh : 0 ≤ (k : Int) ∧ (k : Int) < 6 := by omega
    have j1 := hi.1
    have j2 := hi.2
    obtain ⟨o0, o1, o2, o3, o4, o5, o6⟩ := id hok
    have hp := pw_rng (x := k) (e := s.2.2.1)
    have hL : (s.1 = 0 ∧ (if s.1 = 0 then hanL k else croL k) = hanL k) ∨ (s.1 = 1 ∧ (if s.1 = 0 then hanL k else croL k) = croL k) := by
      rcases o0 with e | e
      · exact Or.inl ⟨e, by rw [if_pos e]⟩
      · exact Or.inr ⟨e, by rw [if_neg (by omega)]⟩
    refine E_iload dX11_threes_28 rfl ?_
    refine E_bipush dX11_threes_30 ?_
    refine E_icmp_ge 207 dX11_threes_32 (fun h32 => ?_) (fun h32 => ?_)
    · -- 207
      exfalso; omega
    · -- 35
      refine E_aload_n dX11_threes_35 rfl ?_
      refine E_callVV dX11_threes_36 lkX11_251 (Hp_get sk_203) (m_beginWays) ?_
      rintro μ1 ⟨a1, a2⟩
      have hz : ThZ μ μ1 := ⟨by rw [a2 215 (by decide)]; exact h1.1, fun q q1 q2 => by rw [a2 q q1, h1.2 q q1 q2]⟩
      refine E_iconst dX11_threes_39 ?_
      refine E_istore dX11_threes_40 ?_
      refine th_fib (μ := μ) (W := wayF k s.2.2.2 one0) hi hs hok hh (fun μ2 w6 w7 g1 g2 => ?_) s.2.2.2 [] one0 μ1 _ rfl rfl (fun z z0 z6 => by rw [a1 z z0 (by omega)]; rfl) hz
      refine E_iconst dX11_threes_127 (E_istore dX11_threes_128 ?_)
      refine th_gen (μ := μ) (W := wayG (if s.1 = 0 then hanL k else croL k) s.2.1.toNat (wayF k s.2.2.2 one0)) hi hs hok hh hL (fun μ3 w6 w7 g3 g4 => ?_) s.2.1.toNat 0 (wayF k s.2.2.2 one0) μ2 w7 (by omega) rfl g2 g1
      refine th_tail (W := wayG (if s.1 = 0 then hanL k else croL k) s.2.1.toNat (wayF k s.2.2.2 one0)) hi (hs.kept g3.now) hok hh g4 (ih μ3 w6 w7 (by omega) g3)
theorem m_threes {i : Int} (hi : -2147483648 ≤ i ∧ i < 2147483648) (hM : RepM μ σ) (hok : stOk σ) : Ctr G mX11_threes [.ref 203, vi i] (Hp μ) (NL μ (aThrees σ i, σ)) := by
  refine Ctr.of ?_
  have hsi := m_isSpace (G := G) (M := Hp μ) hi
  by_cases q1 : isS i
  · rw [cif_pos q1] at hsi
    rw [show aThrees σ i = _ from cif_pos q1]
    have hn := rn_at q1 hM.1
    have ho := ok_at q1 hok.1
    have j1 := q1.1
    have j2 := q1.2
    refine E_iload_n dX11_threes_0 rfl ?_
    refine E_callSR dX11_threes_1 lkX11_147 (hsi) ?_
    refine E_if_ne 11 dX11_threes_4 (fun h4 => ?_) (fun h4 => ?_)
    · -- 11
      refine E_aload_n dX11_threes_11 rfl ?_
      refine GX11_7 sk_203 dX11_threes_12 ?_
      refine E_bipush dX11_threes_15 ?_
      refine E_iload_n dX11_threes_17 rfl ?_
      refine E_imul dX11_threes_18 ?_
      refine E_iconst dX11_threes_19 ?_
      refine E_iadd dX11_threes_20 ?_
      rw [Int.add_zero]
      refine H_iald sk_204 dX11_threes_21 ?_
      rw [hn.1]
      refine E_istore_n dX11_threes_22 ?_
      refine E_lconst0 dX11_threes_23 ?_
      refine E_lstore_n dX11_threes_24 ?_
      refine E_iconst dX11_threes_25 ?_
      refine E_istore dX11_threes_26 ?_
      refine E_mono ?_ (th_h (μ := μ) q1 hn ho 6 0 μ _ _ (by omega) ⟨hM.2.2.2.2.2, fun _ _ _ => rfl⟩)
      rintro v M ⟨hv, μ', hM', g⟩
      exact ⟨hv, μ', hM', g.m hM, fun q hq => g.2 q (by omega) (by omega)⟩
    · -- 7
      exact absurd h4 (by decide)
  · rw [cif_neg q1] at hsi
    rw [show aThrees σ i = -1 from cif_neg q1]
    refine E_iload_n dX11_threes_0 rfl ?_
    refine E_callSR dX11_threes_1 lkX11_147 (hsi) ?_
    refine E_if_ne 11 dX11_threes_4 (fun h4 => ?_) (fun h4 => ?_)
    · -- 11
      exact absurd rfl h4
    · -- 7
      refine E_ldc2 dX11_threes_7 coX11_229 ?_
      refine E_lret dX11_threes_10 ?_
      exact ⟨rfl, _, rfl, hM, fun _ _ => rfl⟩
end MTHR
