/-! FibredSpacesModel: tells, its pairs and the whole text -/
section MPAIR
variable {G : GT} {μ : Mem} {M : HV} {σ : St} {t : List Int}
def MPair (μ : Mem) (t r : List Int) (d : Sp) : Mem → Prop := fun μ' => OffW μ μ' ∧ ((okP1 r d.2.2.2.length ∧ okP2 r ∧ MTk μ' t (nxt (rB r)) ∧ μ' 203 17 = -9 ∧ RepB μ' (put d (tkV (nxt r)) (sB r * tkV (rB r)))) ∨ (okP1 r d.2.2.2.length ∧ ¬ okP2 r ∧ μ' 203 17 = (t.length : Int) - (rB r).length) ∨ (¬ okP1 r d.2.2.2.length ∧ μ' 203 17 = (t.length : Int) - (nxt r).length))
theorem gcd_b {a b : Int} (ha : 0 ≤ a ∧ a ≤ 999) (hb : 0 ≤ b ∧ b ≤ 999) : (Int.gcd a b : Int) ≤ 999 := by
  rcases (show a = 0 ∨ 0 < a by omega) with h | h
  · rw [h, Int.gcd_zero_left]; omega
  · have := Int.gcd_le_left (a := a) b h; omega
theorem suf_len {t r : List Int} (h : ∃ a, t = a ++ r) : r.length ≤ t.length := by
  obtain ⟨a, ha⟩ := h
  rw [ha]; simp
/-- a fault stands: nothing more is read of the pair -/
theorem rp_flt {a : Int} {μ1 : Mem} {P : Mem → Prop} (ha : 0 ≤ a ∧ a ≤ 999) (h15 : 0 ≤ μ1 203 15 ∧ μ1 203 15 ≤ 255) (h16 : 0 ≤ μ1 203 16 ∧ μ1 203 16 ≤ 999) (h17 : 0 ≤ μ1 203 17 ∧ μ1 203 17 ≤ 1000) (hP : P μ1) :
    E G mX11_readPair (Zq G mX11_readPair (V0 P)) 0 0 84 [.ref 203, vi a, vi 0, .retAddr 0] [] (Hp μ1) := by
  have hg := gcd_b ha h16
  have hc := m_common (G := G) (M := Hp μ1) (x := a) (z := μ1 203 16) (by omega) (by omega)
  have hm := fun (b : Int) => must_x (G := G) (μ := μ1) (b := b) (by omega) (by omega)
  refine E_aload_n dX11_readPair_84 rfl ?_
  refine GX11_119 sk_203 dX11_readPair_85 ?_
  refine E_istore_n dX11_readPair_88 ?_
  refine E_aload_n dX11_readPair_89 rfl ?_
  refine E_aload_n dX11_readPair_90 rfl ?_
  refine GX11_122 sk_203 dX11_readPair_91 ?_
  refine E_iconst dX11_readPair_94 ?_
  refine E_icmp_ne 119 dX11_readPair_95 (fun h95 => ?_) (fun h95 => ?_)
  · -- 119
    refine E_iconst dX11_readPair_119 ?_
    refine E_callVU dX11_readPair_120 lkX11_137 (Hp_get sk_203) (hm _) ?_
    refine E_aload_n dX11_readPair_123 rfl ?_
    refine GX11_129 sk_203 dX11_readPair_124 ?_
    refine E_bipush dX11_readPair_127 ?_
    refine E_icmp_ne 147 dX11_readPair_129 (fun h129 => ?_) (fun h129 => ?_)
    · -- 147
      refine E_vret dX11_readPair_147 ?_
      exact ⟨rfl, _, rfl, hP⟩
    · -- 132
      exfalso; omega
  · -- 98
    refine E_iload_n dX11_readPair_98 rfl ?_
    refine E_iconst dX11_readPair_99 ?_
    refine E_icmp_eq 115 dX11_readPair_100 (fun h100 => ?_) (fun h100 => ?_)
    · -- 115
      refine E_iconst dX11_readPair_115 ?_
      refine E_goto 120 dX11_readPair_116 ?_
      refine E_callVU dX11_readPair_120 lkX11_137 (Hp_get sk_203) (hm _) ?_
      refine E_aload_n dX11_readPair_123 rfl ?_
      refine GX11_129 sk_203 dX11_readPair_124 ?_
      refine E_bipush dX11_readPair_127 ?_
      refine E_icmp_ne 147 dX11_readPair_129 (fun h129 => ?_) (fun h129 => ?_)
      · -- 147
        refine E_vret dX11_readPair_147 ?_
        exact ⟨rfl, _, rfl, hP⟩
      · -- 132
        exfalso; omega
    · -- 103
      refine E_iload_n dX11_readPair_103 rfl ?_
      refine E_i2l dX11_readPair_104 ?_
      refine E_iload_n dX11_readPair_105 rfl ?_
      refine E_i2l dX11_readPair_106 ?_
      refine E_callSR dX11_readPair_107 lkX11_143 (hc) ?_
      refine E_lconst1 dX11_readPair_110 ?_
      refine E_lcmp_ne 119 dX11_readPair_111 dX11_readPair_112 (fun h111 => ?_) (fun h111 => ?_)
      · -- 119
        refine E_iconst dX11_readPair_119 ?_
        refine E_callVU dX11_readPair_120 lkX11_137 (Hp_get sk_203) (hm _) ?_
        refine E_aload_n dX11_readPair_123 rfl ?_
        refine GX11_129 sk_203 dX11_readPair_124 ?_
        refine E_bipush dX11_readPair_127 ?_
        refine E_icmp_ne 147 dX11_readPair_129 (fun h129 => ?_) (fun h129 => ?_)
        · -- 147
          refine E_vret dX11_readPair_147 ?_
          exact ⟨rfl, _, rfl, hP⟩
        · -- 132
          exfalso; omega
      · -- 115
        refine E_iconst dX11_readPair_115 ?_
        refine E_goto 120 dX11_readPair_116 ?_
        refine E_callVU dX11_readPair_120 lkX11_137 (Hp_get sk_203) (hm _) ?_
        refine E_aload_n dX11_readPair_123 rfl ?_
        refine GX11_129 sk_203 dX11_readPair_124 ?_
        refine E_bipush dX11_readPair_127 ?_
        refine E_icmp_ne 147 dX11_readPair_129 (fun h129 => ?_) (fun h129 => ?_)
        · -- 147
          refine E_vret dX11_readPair_147 ?_
          exact ⟨rfl, _, rfl, hP⟩
        · -- 132
          exfalso; omega
theorem rp_fin {r : List Int} {d : Sp} {bl : Int} {μ3 : Mem} (hX : RepX μ t) (hx : txOk t) (hB : RepB μ d) (hdm : ∀ y ∈ d.2.2.2, smF y) (hdl : d.2.2.2.length ≤ 8) (h1 : okP1 r d.2.2.2.length) (hS : MTk μ3 t (rB r)) (ho : OffK μ μ3) (hf : μ3 203 17 = -9) (hbl : (bl = 1 ∧ sB r = -1) ∨ (bl = 0 ∧ sB r = 1)) :
    E G mX11_readPair (Zq G mX11_readPair (V0 (MPair μ t r d))) 0 0 84 [.ref 203, vi (tkV (nxt r)), vi bl, .retAddr 0] [] (Hp μ3) := by
  have hm : mostA d.2.2.2.length ≤ 30 := by unfold mostA; split <;> omega
  have ha1 := h1.2.1
  have ha2 := h1.2.2
  have v0 := hS.2.2.2.1
  have v1 := hS.2.2.2.2.1
  have t15 := hS.2.2.1
  have tr := modT_rng (hS.ok hx)
  have e14 := hS.2.1
  have hl := suf_len hS.2.2.2.2.2.2
  have hX3 := ho.x hX
  have hl1 := hX3.2.1
  have hc := m_common (G := G) (M := Hp μ3) (x := tkV (nxt r)) (z := μ3 203 16) (by omega) (by omega)
  have hg := gcd_b (a := tkV (nxt r)) (b := μ3 203 16) (by omega) (by omega)
  have no : ¬ okP2 r → E G mX11_readPair (Zq G mX11_readPair (V0 (MPair μ t r d))) 0 0 119 [.ref 203, vi (tkV (nxt r)), vi bl, vi (μ3 203 16)] [.ref 203] (Hp μ3) := by
    intro h2
    have e17 : (up μ3 203 17 (μ3 203 14)) 203 17 = (t.length : Int) - (rB r).length := by rw [up_r, if_pos rfl]; exact e14
    refine E_iconst dX11_readPair_119 ?_
    refine E_callVU dX11_readPair_120 lkX11_137 (Hp_get sk_203) (must_0 hf) ?_
    refine E_aload_n dX11_readPair_123 rfl ?_
    refine GX11_129 sk_203 dX11_readPair_124 ?_
    rw [e17]
    refine E_bipush dX11_readPair_127 ?_
    refine E_icmp_ne 147 dX11_readPair_129 (fun h129 => ?_) (fun h129 => ?_)
    · -- 147
      refine E_vret dX11_readPair_147 ?_
      exact ⟨rfl, _, rfl, ho.w.fld (by omega), Or.inr (Or.inl ⟨h1, h2, e17⟩)⟩
    · -- 132
      exfalso; omega
  have yes : okP2 r → μ3 203 16 = tkV (rB r) → E G mX11_readPair (Zq G mX11_readPair (V0 (MPair μ t r d))) 0 0 115 [.ref 203, vi (tkV (nxt r)), vi bl, vi (μ3 203 16)] [.ref 203] (Hp μ3) := by
    intro h2 hv
    have h2a := h2.1.2.1
    have h2b := h2.1.2.2
    refine E_iconst dX11_readPair_115 ?_
    refine E_goto 120 dX11_readPair_116 ?_
    refine E_callVV dX11_readPair_120 lkX11_137 (Hp_get sk_203) (must_1 hX3 hx hS hf) (fun μ4 g => ?_)
    obtain ⟨g1, g2⟩ := g
    have e17 : μ4 203 17 = -9 := by rw [g2.2 17 (by omega)]; exact hf
    have hB4 := (ho.tr g2).b hB
    have hadd := fun (b : Int) (hb : b = sB r * tkV (rB r)) => m_add (G := G) (a := tkV (nxt r)) (b := b) hB4 (by omega) (by rcases hbl with ⟨-, q⟩ | ⟨-, q⟩ <;> rw [hb, q] <;> omega) hdm (by omega)
    rw [hv]
    rcases hbl with ⟨rfl, q⟩ | ⟨rfl, q⟩
    · skip
      refine E_aload_n dX11_readPair_123 rfl ?_
      refine GX11_129 sk_203 dX11_readPair_124 ?_
      rw [e17]
      refine E_bipush dX11_readPair_127 ?_
      refine E_icmp_ne 147 dX11_readPair_129 (fun h129 => ?_) (fun h129 => ?_)
      · -- 147
        first | (exfalso; omega) | exact E_vret dX11_readPair_147 ⟨rfl, _, rfl, (ho.tr g2).w.tr k2.w, Or.inl ⟨h1, h2, g1.kept (fun j j1 j2 => k2.2 j (by omega)), by rw [k2.2 17 (by omega)]; exact e17, by rw [q, show (-1 : Int) * tkV (rB r) = -tkV (rB r) by omega]; exact k1⟩⟩
      · -- 132
        refine E_aload_n dX11_readPair_132 rfl ?_
        refine E_iload_n dX11_readPair_133 rfl ?_
        refine E_iload_n dX11_readPair_134 rfl ?_
        refine E_if_eq 143 dX11_readPair_135 (fun h135 => ?_) (fun h135 => ?_)
        · -- 143
          exfalso; omega
        · -- 138
          refine E_iload_n dX11_readPair_138 rfl ?_
          refine E_ineg dX11_readPair_139 ?_
          refine E_goto 144 dX11_readPair_140 ?_
          refine E_callVV dX11_readPair_144 lkX11_104 (Hp_get sk_203) (hadd (-tkV (rB r)) (by rw [q]; omega)) ?_
          rintro μ5 ⟨k1, k2⟩
          first | (exfalso; omega) | exact E_vret dX11_readPair_147 ⟨rfl, _, rfl, (ho.tr g2).w.tr k2.w, Or.inl ⟨h1, h2, g1.kept (fun j j1 j2 => k2.2 j (by omega)), by rw [k2.2 17 (by omega)]; exact e17, by rw [q, show (-1 : Int) * tkV (rB r) = -tkV (rB r) by omega]; exact k1⟩⟩
    · skip
      refine E_aload_n dX11_readPair_123 rfl ?_
      refine GX11_129 sk_203 dX11_readPair_124 ?_
      rw [e17]
      refine E_bipush dX11_readPair_127 ?_
      refine E_icmp_ne 147 dX11_readPair_129 (fun h129 => ?_) (fun h129 => ?_)
      · -- 147
        first | (exfalso; omega) | exact E_vret dX11_readPair_147 ⟨rfl, _, rfl, (ho.tr g2).w.tr k2.w, Or.inl ⟨h1, h2, g1.kept (fun j j1 j2 => k2.2 j (by omega)), by rw [k2.2 17 (by omega)]; exact e17, by rw [q, Int.one_mul]; exact k1⟩⟩
      · -- 132
        refine E_aload_n dX11_readPair_132 rfl ?_
        refine E_iload_n dX11_readPair_133 rfl ?_
        refine E_iload_n dX11_readPair_134 rfl ?_
        refine E_if_eq 143 dX11_readPair_135 (fun h135 => ?_) (fun h135 => ?_)
        · -- 143
          refine E_iload_n dX11_readPair_143 rfl ?_
          refine E_callVV dX11_readPair_144 lkX11_104 (Hp_get sk_203) (hadd (tkV (rB r)) (by rw [q]; omega)) ?_
          rintro μ5 ⟨k1, k2⟩
          first | (exfalso; omega) | exact E_vret dX11_readPair_147 ⟨rfl, _, rfl, (ho.tr g2).w.tr k2.w, Or.inl ⟨h1, h2, g1.kept (fun j j1 j2 => k2.2 j (by omega)), by rw [k2.2 17 (by omega)]; exact e17, by rw [q, Int.one_mul]; exact k1⟩⟩
        · -- 138
          exfalso; omega
  rcases tk_in hS hx with ⟨q1, q2, q3, q4⟩ | ⟨q1, q2⟩
  · have k0 := tkV_rng (rB r)
    have gn : Int.gcd (tkV (nxt r)) (μ3 203 16) = 1 ↔ okP2 r := by
      rw [q4]
      exact ⟨fun h => ⟨⟨q1, k0.1, q2⟩, h⟩, fun h => h.2⟩
    have g1 : tkV (nxt r) = 1 → okP2 r := fun h => gn.mp (by rw [h]; simp)
    refine E_aload_n dX11_readPair_84 rfl ?_
    refine GX11_119 sk_203 dX11_readPair_85 ?_
    refine E_istore_n dX11_readPair_88 ?_
    refine E_aload_n dX11_readPair_89 rfl ?_
    refine E_aload_n dX11_readPair_90 rfl ?_
    refine GX11_122 sk_203 dX11_readPair_91 ?_
    rw [q3]
    refine E_iconst dX11_readPair_94 ?_
    refine E_icmp_ne 119 dX11_readPair_95 (fun h95 => ?_) (fun h95 => ?_)
    · -- 119
      first | (exfalso; omega) | exact no (fun h => absurd (gn.mpr h) (by omega))
    · -- 98
      refine E_iload_n dX11_readPair_98 rfl ?_
      refine E_iconst dX11_readPair_99 ?_
      refine E_icmp_eq 115 dX11_readPair_100 (fun h100 => ?_) (fun h100 => ?_)
      · -- 115
        exact yes (by first | exact g1 (by omega) | exact gn.mp (by omega)) q4
      · -- 103
        refine E_iload_n dX11_readPair_103 rfl ?_
        refine E_i2l dX11_readPair_104 ?_
        refine E_iload_n dX11_readPair_105 rfl ?_
        refine E_i2l dX11_readPair_106 ?_
        refine E_callSR dX11_readPair_107 lkX11_143 (hc) ?_
        refine E_lconst1 dX11_readPair_110 ?_
        refine E_lcmp_ne 119 dX11_readPair_111 dX11_readPair_112 (fun h111 => ?_) (fun h111 => ?_)
        · -- 119
          first | (exfalso; omega) | exact no (fun h => absurd (gn.mpr h) (by omega))
        · -- 115
          exact yes (by first | exact g1 (by omega) | exact gn.mp (by omega)) q4
  · have h2 : ¬ okP2 r := fun h => q1 ⟨h.1.1, h.1.2.2⟩
    refine E_aload_n dX11_readPair_84 rfl ?_
    refine GX11_119 sk_203 dX11_readPair_85 ?_
    refine E_istore_n dX11_readPair_88 ?_
    refine E_aload_n dX11_readPair_89 rfl ?_
    refine E_aload_n dX11_readPair_90 rfl ?_
    refine GX11_122 sk_203 dX11_readPair_91 ?_
    refine E_iconst dX11_readPair_94 ?_
    refine E_icmp_ne 119 dX11_readPair_95 (fun h95 => ?_) (fun h95 => ?_)
    · -- 119
      exact no h2
    · -- 98
      exact absurd h95 q2
theorem m_readPair {r : List Int} {d : Sp} (hX : RepX μ t) (hx : txOk t) (hS : MTk μ t r) (hf : μ 203 17 = -9) (hB : RepB μ d) (hdm : ∀ y ∈ d.2.2.2, smF y) (hdl : d.2.2.2.length ≤ 8) : Ctr G mX11_readPair [.ref 203] (Hp μ) (V0 (MPair μ t r d)) := by
  refine Ctr.of ?_
  have hl1 := hX.2.1
  have tail : ∀ μ1 : Mem, MTk μ1 t (nxt r) → OffK μ μ1 → E G mX11_readPair (Zq G mX11_readPair (V0 (MPair μ t r d))) 0 0 4 [.ref 203, .retAddr 0, .retAddr 0, .retAddr 0] [] (Hp μ1) := by
    intro μ1 a1 a2
    have v0 := a1.2.2.2.1
    have v1 := a1.2.2.2.2.1
    have t15 := a1.2.2.1
    have tr := modT_rng (a1.ok hx)
    have e14 := a1.2.1
    have hl := suf_len a1.2.2.2.2.2.2
    have e17 : μ1 203 17 = -9 := by rw [a2.2 17 (by omega)]; exact hf
    have e8 : μ1 203 8 = d.2.2.2.length := (a2.b hB).2.2.2.1
    have hin := m_in (G := G) (M := Hp μ1) (v := μ1 203 16) (lo := 1) (hi := 30) (by omega) (by omega) (by omega)
    have no : ¬ okP1 r d.2.2.2.length → E G mX11_readPair (Zq G mX11_readPair (V0 (MPair μ t r d))) 0 0 48 [.ref 203, vi (μ1 203 16), .retAddr 0, .retAddr 0] [.ref 203] (Hp μ1) := by
      intro h1
      have f17 : (up μ1 203 17 (μ1 203 14)) 203 17 = (t.length : Int) - (nxt r).length := by rw [up_r, if_pos rfl]; exact e14
      have f15 : (up μ1 203 17 (μ1 203 14)) 203 15 = μ1 203 15 := by rw [up_r, if_neg (by omega)]
      have f16 : (up μ1 203 17 (μ1 203 14)) 203 16 = μ1 203 16 := by rw [up_r, if_neg (by omega)]
      refine E_iconst dX11_readPair_48 ?_
      refine E_callVU dX11_readPair_49 lkX11_137 (Hp_get sk_203) (must_0 e17) ?_
      refine E_aload_n dX11_readPair_52 rfl ?_
      refine GX11_129 sk_203 dX11_readPair_53 ?_
      rw [f17]
      refine E_bipush dX11_readPair_56 ?_
      refine E_icmp_ne 74 dX11_readPair_58 (fun h58 => ?_) (fun h58 => ?_)
      · -- 74
        refine E_iconst dX11_readPair_74 ?_
        refine E_istore_n dX11_readPair_75 ?_
        refine E_iload_n dX11_readPair_76 rfl ?_
        refine E_if_eq 84 dX11_readPair_77 (fun h77 => ?_) (fun h77 => ?_)
        · -- 84
          exact rp_flt (by omega) (by rw [f15, t15]; omega) (by rw [f16]; omega) (by rw [f17]; omega) ⟨a2.w.fld (by omega), Or.inr (Or.inr ⟨h1, f17⟩)⟩
        · -- 80
          exfalso; omega
      · -- 61
        exfalso; omega
    have yes : okP1 r d.2.2.2.length → μ1 203 16 = tkV (nxt r) → E G mX11_readPair (Zq G mX11_readPair (V0 (MPair μ t r d))) 0 0 44 [.ref 203, vi (μ1 203 16), .retAddr 0, .retAddr 0] [.ref 203] (Hp μ1) := by
      intro h1 hv
      refine E_iconst dX11_readPair_44 ?_
      refine E_goto 49 dX11_readPair_45 ?_
      refine E_callVV dX11_readPair_49 lkX11_137 (Hp_get sk_203) (must_1 (a2.x hX) hx a1 e17) (fun μ2 g => ?_)
      obtain ⟨g1, g2⟩ := g
      have f17 : μ2 203 17 = -9 := by rw [g2.2 17 (by omega)]; exact e17
      have f15 := g1.2.2.1
      have mr := modT_rng (g1.ok hx)
      have mc := modT_c (c := 45) (g1.ok hx) (by omega)
      rw [hv]
      by_cases q : tkK (nxt (nxt r)) = 45
      · have er : rB r = nxt (nxt (nxt r)) := by unfold rB; rw [if_pos q]
        have es : sB r = -1 := by unfold sB; rw [if_pos q]
        have e45 := mc.mpr q
        refine E_aload_n dX11_readPair_52 rfl ?_
        refine GX11_129 sk_203 dX11_readPair_53 ?_
        rw [f17]
        refine E_bipush dX11_readPair_56 ?_
        refine E_icmp_ne 74 dX11_readPair_58 (fun h58 => ?_) (fun h58 => ?_)
        · -- 74
          exfalso; omega
        · -- 61
          refine E_aload_n dX11_readPair_61 rfl ?_
          refine GX11_122 sk_203 dX11_readPair_62 ?_
          rw [f15]
          refine E_bipush dX11_readPair_65 ?_
          refine E_icmp_ne 74 dX11_readPair_67 (fun h67 => ?_) (fun h67 => ?_)
          · -- 74
            exfalso; omega
          · -- 70
            refine E_iconst dX11_readPair_70 ?_
            refine E_goto 75 dX11_readPair_71 ?_
            refine E_istore_n dX11_readPair_75 ?_
            refine E_iload_n dX11_readPair_76 rfl ?_
            refine E_if_eq 84 dX11_readPair_77 (fun h77 => ?_) (fun h77 => ?_)
            · -- 84
              first | (exfalso; omega) | exact rp_fin hX hx hB hdm hdl h1 (by rw [er]; exact k1) ((a2.tr g2).tr k2) (by rw [k2.2 17 (by omega)]; exact f17) (Or.inl ⟨rfl, es⟩)
            · -- 80
              refine E_aload_n dX11_readPair_80 rfl ?_
              refine E_callVV dX11_readPair_81 lkX11_132 (Hp_get sk_203) (m_next ((a2.tr g2).x hX) hx g1) ?_
              rintro μ3 ⟨k1, k2⟩
              first | (exfalso; omega) | exact rp_fin hX hx hB hdm hdl h1 (by rw [er]; exact k1) ((a2.tr g2).tr k2) (by rw [k2.2 17 (by omega)]; exact f17) (Or.inl ⟨rfl, es⟩)
      · have er : rB r = nxt (nxt r) := by unfold rB; rw [if_neg q]
        have es : sB r = 1 := by unfold sB; rw [if_neg q]
        have e45 : modT (nxt (nxt r)) ≠ 45 := fun h => q (mc.mp h)
        refine E_aload_n dX11_readPair_52 rfl ?_
        refine GX11_129 sk_203 dX11_readPair_53 ?_
        rw [f17]
        refine E_bipush dX11_readPair_56 ?_
        refine E_icmp_ne 74 dX11_readPair_58 (fun h58 => ?_) (fun h58 => ?_)
        · -- 74
          refine E_iconst dX11_readPair_74 ?_
          refine E_istore_n dX11_readPair_75 ?_
          refine E_iload_n dX11_readPair_76 rfl ?_
          refine E_if_eq 84 dX11_readPair_77 (fun h77 => ?_) (fun h77 => ?_)
          · -- 84
            first | (exfalso; omega) | exact rp_fin hX hx hB hdm hdl h1 (by rw [er]; exact g1) (a2.tr g2) f17 (Or.inr ⟨rfl, es⟩)
          · -- 80
            exfalso; omega
        · -- 61
          refine E_aload_n dX11_readPair_61 rfl ?_
          refine GX11_122 sk_203 dX11_readPair_62 ?_
          rw [f15]
          refine E_bipush dX11_readPair_65 ?_
          refine E_icmp_ne 74 dX11_readPair_67 (fun h67 => ?_) (fun h67 => ?_)
          · -- 74
            refine E_iconst dX11_readPair_74 ?_
            refine E_istore_n dX11_readPair_75 ?_
            refine E_iload_n dX11_readPair_76 rfl ?_
            refine E_if_eq 84 dX11_readPair_77 (fun h77 => ?_) (fun h77 => ?_)
            · -- 84
              first | (exfalso; omega) | exact rp_fin hX hx hB hdm hdl h1 (by rw [er]; exact g1) (a2.tr g2) f17 (Or.inr ⟨rfl, es⟩)
            · -- 80
              exfalso; omega
          · -- 70
            exfalso; omega
    have hm30 : mostA d.2.2.2.length ≤ 30 := by unfold mostA; split <;> omega
    have hmo : ((d.2.2.2.length : Int) < 6 → mostA d.2.2.2.length = 30) ∧ (¬ (d.2.2.2.length : Int) < 6 → mostA d.2.2.2.length = 1) := by unfold mostA; constructor <;> intro h <;> simp [h]
    rcases tk_in a1 hx with ⟨q1, q2, q3, q4⟩ | ⟨q1, q2⟩
    · by_cases q5 : 1 ≤ μ1 203 16 ∧ μ1 203 16 ≤ 30
      · rw [cif_pos q5] at hin
        refine E_aload_n dX11_readPair_4 rfl ?_
        refine GX11_119 sk_203 dX11_readPair_5 ?_
        refine E_istore_n dX11_readPair_8 ?_
        refine E_aload_n dX11_readPair_9 rfl ?_
        refine E_aload_n dX11_readPair_10 rfl ?_
        refine GX11_122 sk_203 dX11_readPair_11 ?_
        rw [q3]
        refine E_iconst dX11_readPair_14 ?_
        refine E_icmp_ne 48 dX11_readPair_15 (fun h15 => ?_) (fun h15 => ?_)
        · -- 48
          first | exact absurd rfl h15 | exact absurd h27 (by decide) | exact no (fun h => by have := h.2.2; rw [hmo.2 (by omega)] at this; omega)
        · -- 18
          refine E_iload_n dX11_readPair_18 rfl ?_
          refine E_i2l dX11_readPair_19 ?_
          refine E_lconst1 dX11_readPair_20 ?_
          refine E_ldc2 dX11_readPair_21 coX11_141 ?_
          refine E_callSR dX11_readPair_24 lkX11_63 (hin) ?_
          refine E_if_eq 48 dX11_readPair_27 (fun h27 => ?_) (fun h27 => ?_)
          · -- 48
            first | exact absurd rfl h15 | exact absurd h27 (by decide) | exact no (fun h => by have := h.2.2; rw [hmo.2 (by omega)] at this; omega)
          · -- 30
            refine E_iload_n dX11_readPair_30 rfl ?_
            refine E_iconst dX11_readPair_31 ?_
            refine E_icmp_eq 44 dX11_readPair_32 (fun h32 => ?_) (fun h32 => ?_)
            · -- 44
              exact yes ⟨q1, by omega, by by_cases h : (d.2.2.2.length : Int) < 6 <;> first | (rw [hmo.1 h]; omega) | (rw [hmo.2 h]; omega)⟩ q4
            · -- 35
              refine E_aload_n dX11_readPair_35 rfl ?_
              refine GX11_76 sk_203 dX11_readPair_36 ?_
              rw [e8]
              refine E_bipush dX11_readPair_39 ?_
              refine E_icmp_ge 48 dX11_readPair_41 (fun h41 => ?_) (fun h41 => ?_)
              · -- 48
                first | exact absurd rfl h15 | exact absurd h27 (by decide) | exact no (fun h => by have := h.2.2; rw [hmo.2 (by omega)] at this; omega)
              · -- 44
                exact yes ⟨q1, by omega, by by_cases h : (d.2.2.2.length : Int) < 6 <;> first | (rw [hmo.1 h]; omega) | (rw [hmo.2 h]; omega)⟩ q4
      · rw [cif_neg q5] at hin
        refine E_aload_n dX11_readPair_4 rfl ?_
        refine GX11_119 sk_203 dX11_readPair_5 ?_
        refine E_istore_n dX11_readPair_8 ?_
        refine E_aload_n dX11_readPair_9 rfl ?_
        refine E_aload_n dX11_readPair_10 rfl ?_
        refine GX11_122 sk_203 dX11_readPair_11 ?_
        rw [q3]
        refine E_iconst dX11_readPair_14 ?_
        refine E_icmp_ne 48 dX11_readPair_15 (fun h15 => ?_) (fun h15 => ?_)
        · -- 48
          first | exact absurd rfl h15 | exact no (fun h => q5 (by rw [q4]; exact ⟨h.2.1, Int.le_trans h.2.2 hm30⟩))
        · -- 18
          refine E_iload_n dX11_readPair_18 rfl ?_
          refine E_i2l dX11_readPair_19 ?_
          refine E_lconst1 dX11_readPair_20 ?_
          refine E_ldc2 dX11_readPair_21 coX11_141 ?_
          refine E_callSR dX11_readPair_24 lkX11_63 (hin) ?_
          refine E_if_eq 48 dX11_readPair_27 (fun h27 => ?_) (fun h27 => ?_)
          · -- 48
            first | exact absurd rfl h15 | exact no (fun h => q5 (by rw [q4]; exact ⟨h.2.1, Int.le_trans h.2.2 hm30⟩))
          · -- 30
            exact absurd rfl h27
    · skip
      refine E_aload_n dX11_readPair_4 rfl ?_
      refine GX11_119 sk_203 dX11_readPair_5 ?_
      refine E_istore_n dX11_readPair_8 ?_
      refine E_aload_n dX11_readPair_9 rfl ?_
      refine E_aload_n dX11_readPair_10 rfl ?_
      refine GX11_122 sk_203 dX11_readPair_11 ?_
      refine E_iconst dX11_readPair_14 ?_
      refine E_icmp_ne 48 dX11_readPair_15 (fun h15 => ?_) (fun h15 => ?_)
      · -- 48
        exact no (fun h => q1 ⟨h.1, by have := h.2.2; omega⟩)
      · -- 18
        exact absurd h15 q2
  refine E_aload_n dX11_readPair_0 rfl ?_
  refine E_callVV dX11_readPair_1 lkX11_132 (Hp_get sk_203) (m_next hX hx hS) ?_
  rintro μ1 ⟨a1, a2⟩
  exact tail μ1 a1 a2
end MPAIR
