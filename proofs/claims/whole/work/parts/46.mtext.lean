/-! FibredSpacesModel: tells, the whole text -/
section MTEXT
variable {G : GT} {μ : Mem} {M : HV} {σ : St}
noncomputable def resT (σ : St) (i : Int) (P : Bool × List Int × PS) : Int × St := cif (P.1 = true) (cif (fitD P.2.2.2.2.2) (P.2.2.1, setSh σ.1 i.toNat P.2.2.2.2.2, (σ.1 :: σ.2.1).take 6, σ.2.2.1, [], σ.2.2.2.2) (-3, σ)) (-10 - ((σ.2.2.2.1.length : Int) - P.2.1.length), σ)
theorem vi_re (x : Int) : vi x = vi (Int32.ofInt x).toInt := by unfold vi; rw [Int32.ofInt_toInt]
theorem tl_flt {i c2 c3 F : Int} {w4 : Value} {μ1 : Mem} (hM : RepM μ1 σ) (ho : OffW μ μ1) (h17 : μ1 203 17 = F) (hF : 0 ≤ F ∧ F ≤ 100) :
    E G mX11_tells (Zq G mX11_tells (NQ μ (-10 - F, σ))) 0 0 125 [.ref 203, vi i, vi c2, vi c3, w4] [] (Hp μ1) := by
  have hm := fun (b : Int) => must_x (G := G) (μ := μ1) (b := b) (by omega) (by omega)
  have h15 := t32 (Int32.ofInt (μ1 203 15))
  refine E_aload_n dX11_tells_125 rfl ?_
  refine E_aload_n dX11_tells_126 rfl ?_
  refine GX11_122 sk_203 dX11_tells_127 ?_
  rw [vi_re (μ1 203 15)]
  refine E_bipush dX11_tells_130 ?_
  refine E_icmp_ne 139 dX11_tells_132 (fun h132 => ?_) (fun h132 => ?_)
  · -- 139
    refine E_iconst dX11_tells_139 ?_
    refine E_callVU dX11_tells_140 lkX11_137 (Hp_get sk_203) (hm _) ?_
    refine E_iinc dX11_tells_143 rfl ?_
    refine E_goto 35 dX11_tells_146 ?_
    refine E_aload_n dX11_tells_35 rfl ?_
    refine GX11_129 sk_203 dX11_tells_36 ?_
    refine E_bipush dX11_tells_39 ?_
    refine E_icmp_ne 149 dX11_tells_41 (fun h41 => ?_) (fun h41 => ?_)
    · -- 149
      refine E_aload_n dX11_tells_149 rfl ?_
      refine GX11_129 sk_203 dX11_tells_150 ?_
      refine E_bipush dX11_tells_153 ?_
      refine E_icmp_eq 166 dX11_tells_155 (fun h155 => ?_) (fun h155 => ?_)
      · -- 166
        exfalso; omega
      · -- 158
        refine E_bipush dX11_tells_158 ?_
        refine E_aload_n dX11_tells_160 rfl ?_
        refine GX11_129 sk_203 dX11_tells_161 ?_
        rw [h17]
        refine E_isub dX11_tells_164 ?_
        refine E_iret dX11_tells_165 ?_
        exact ⟨rfl, _, rfl, hM, ho.lo⟩
    · -- 44
      exfalso; omega
  · -- 135
    refine E_iconst dX11_tells_135 ?_
    refine E_goto 140 dX11_tells_136 ?_
    refine E_callVU dX11_tells_140 lkX11_137 (Hp_get sk_203) (hm _) ?_
    refine E_iinc dX11_tells_143 rfl ?_
    refine E_goto 35 dX11_tells_146 ?_
    refine E_aload_n dX11_tells_35 rfl ?_
    refine GX11_129 sk_203 dX11_tells_36 ?_
    refine E_bipush dX11_tells_39 ?_
    refine E_icmp_ne 149 dX11_tells_41 (fun h41 => ?_) (fun h41 => ?_)
    · -- 149
      refine E_aload_n dX11_tells_149 rfl ?_
      refine GX11_129 sk_203 dX11_tells_150 ?_
      refine E_bipush dX11_tells_153 ?_
      refine E_icmp_eq 166 dX11_tells_155 (fun h155 => ?_) (fun h155 => ?_)
      · -- 166
        exfalso; omega
      · -- 158
        refine E_bipush dX11_tells_158 ?_
        refine E_aload_n dX11_tells_160 rfl ?_
        refine GX11_129 sk_203 dX11_tells_161 ?_
        rw [h17]
        refine E_isub dX11_tells_164 ?_
        refine E_iret dX11_tells_165 ?_
        exact ⟨rfl, _, rfl, hM, ho.lo⟩
    · -- 44
      exfalso; omega
theorem tl_fin {i : Int} {r' : List Int} {s : PS} {w4 : Value} {μ1 : Mem} {Q : QT} (hx : txOk σ.2.2.2.1) (hM : RepM μ1 σ) (ho : OffW μ μ1) (hS : MTk μ1 σ.2.2.2.1 r') (h17 : μ1 203 17 = -9) (hB : RepB μ1 s.2.2.2)
    (hk : tkK r' = 59 → ∀ (μ2 : Mem) (w4 : Value), MTk μ2 σ.2.2.2.1 (nxt r') → μ2 203 17 = -9 → RepB μ2 s.2.2.2 → OffW μ μ2 → E G mX11_tells (Zq G mX11_tells Q) 0 0 35 [.ref 203, vi i, vi (s.1 + 1), vi s.2.1, w4] [] (Hp μ2))
    (hn : tkK r' ≠ 59 → ∀ v M, NQ μ (-10 - ((σ.2.2.2.1.length : Int) - r'.length), σ) v M → Q v M) :
    E G mX11_tells (Zq G mX11_tells Q) 0 0 125 [.ref 203, vi i, vi s.1, vi s.2.1, w4] [] (Hp μ1) := by
  have hX := hM.2.2.2.1
  have hl1 := hX.2.1
  have h15 := hS.2.2.1
  have mr := modT_rng (hS.ok hx)
  have mc := modT_c (c := 59) (hS.ok hx) (by omega)
  have hl := suf_len hS.2.2.2.2.2.2
  by_cases q : tkK r' = 59
  · have e := mc.mpr q
    refine E_aload_n dX11_tells_125 rfl ?_
    refine E_aload_n dX11_tells_126 rfl ?_
    refine GX11_122 sk_203 dX11_tells_127 ?_
    rw [h15]
    refine E_bipush dX11_tells_130 ?_
    refine E_icmp_ne 139 dX11_tells_132 (fun h132 => ?_) (fun h132 => ?_)
    · -- 139
      exfalso; omega
    · -- 135
      refine E_iconst dX11_tells_135 ?_
      refine E_goto 140 dX11_tells_136 ?_
      refine E_callVV dX11_tells_140 lkX11_137 (Hp_get sk_203) (must_1 hX hx hS h17) ?_
      rintro μ2 ⟨a1, a2⟩
      refine E_iinc dX11_tells_143 rfl ?_
      refine E_goto 35 dX11_tells_146 ?_
      exact hk q μ2 _ a1 (by rw [a2.2 17 (by omega)]; exact h17) (a2.b hB) (ho.tr a2.w)
  · have e : modT r' ≠ 59 := fun h => q (mc.mp h)
    have e17 : (up μ1 203 17 (μ1 203 14)) 203 17 = (σ.2.2.2.1.length : Int) - r'.length := by rw [up_r, if_pos rfl]; exact hS.2.1
    refine E_mono (hn q) ?_
    have hM2 : RepM (up μ1 203 17 (μ1 203 14)) σ := hM.off (OffW.rf.fld (by omega))
    have ho2 : OffW μ (up μ1 203 17 (μ1 203 14)) := ho.fld (by omega)
    refine E_aload_n dX11_tells_125 rfl ?_
    refine E_aload_n dX11_tells_126 rfl ?_
    refine GX11_122 sk_203 dX11_tells_127 ?_
    rw [h15]
    refine E_bipush dX11_tells_130 ?_
    refine E_icmp_ne 139 dX11_tells_132 (fun h132 => ?_) (fun h132 => ?_)
    · -- 139
      refine E_iconst dX11_tells_139 ?_
      refine E_callVU dX11_tells_140 lkX11_137 (Hp_get sk_203) (must_0 h17) ?_
      refine E_iinc dX11_tells_143 rfl ?_
      refine E_goto 35 dX11_tells_146 ?_
      refine E_aload_n dX11_tells_35 rfl ?_
      refine GX11_129 sk_203 dX11_tells_36 ?_
      rw [e17]
      refine E_bipush dX11_tells_39 ?_
      refine E_icmp_ne 149 dX11_tells_41 (fun h41 => ?_) (fun h41 => ?_)
      · -- 149
        refine E_aload_n dX11_tells_149 rfl ?_
        refine GX11_129 sk_203 dX11_tells_150 ?_
        rw [e17]
        refine E_bipush dX11_tells_153 ?_
        refine E_icmp_eq 166 dX11_tells_155 (fun h155 => ?_) (fun h155 => ?_)
        · -- 166
          exfalso; omega
        · -- 158
          refine E_bipush dX11_tells_158 ?_
          refine E_aload_n dX11_tells_160 rfl ?_
          refine GX11_129 sk_203 dX11_tells_161 ?_
          rw [e17]
          refine E_isub dX11_tells_164 ?_
          refine E_iret dX11_tells_165 ?_
          exact ⟨rfl, _, rfl, hM2, ho2.lo⟩
      · -- 44
        exfalso; omega
    · -- 135
      exfalso; omega
theorem tl_end {i : Int} {s : PS} {w3 w4 : Value} {μ1 : Mem} (hi : isS i) (hG : stG σ) (hM : RepM μ1 σ) (ho : OffW μ μ1) (h17 : μ1 203 17 = -9) (hB : RepB μ1 s.2.2.2) (hg : psGood s) (hok : psOk s) :
    E G mX11_tells (Zq G mX11_tells (NQ μ (s.1, setSh σ.1 i.toNat s.2.2.2, (σ.1 :: σ.2.1).take 6, σ.2.2.1, [], σ.2.2.2.2))) 0 0 149 [.ref 203, vi i, vi s.1, w3, w4] [] (Hp μ1) := by
  obtain ⟨g1, g2, g3, g4, g5, g6, g7, g8, g9⟩ := id hg
  obtain ⟨p1, p2, p3, p4, p5, p6, p7⟩ := id hok
  obtain ⟨n1, n2, n3, n4, n5, n6⟩ := id hM
  have hfit : fitD s.2.2.2 := ⟨by omega, g4, by omega, by omega⟩
  have ef : ∀ j : Int, j ≠ 12 → (up μ1 203 12 0) 203 j = μ1 203 j := fun j hj => by rw [up_r, if_neg hj]
  have eq : ∀ q : Nat, q ≠ 203 → (up μ1 203 12 0) q = μ1 q := fun q h1 => up_ne q h1
  have hM2 : RepM (up μ1 203 12 0) (sClear σ).2 := ⟨n1.kept (eq 204 (by decide)), n2.kept (ef 2 (by decide)) (eq 205 (by decide)), n3.kept (eq 206 (by decide)) (eq 207 (by decide)), ⟨by rw [up_r, if_pos rfl]; rfl, by simp [sClear], RepV.nil⟩, n5.kept (ef 28 (by decide)) (eq 216 (by decide)) (eq 217 (by decide)), by rw [eq 215 (by decide)]; exact n6⟩
  have hB2 : RepB (up μ1 203 12 0) s.2.2.2 := by
    obtain ⟨c1, c2, c3, c4, c5⟩ := hB
    exact ⟨by rw [ef 5 (by decide)]; exact c1, by rw [ef 6 (by decide)]; exact c2, by rw [ef 7 (by decide)]; exact c3, by rw [ef 8 (by decide)]; exact c4, c5.kept (eq 208 (by decide)) (eq 209 (by decide))⟩
  have hlay := m_lays (G := G) (a := s.1) hi hM2 (g_clear hG).1 hB2 (by omega) (by omega) (by omega)
  rw [show sSettle (sClear σ).2 i s.2.2.2 s.1 = (s.1, setSh σ.1 i.toNat s.2.2.2, (σ.1 :: σ.2.1).take 6, σ.2.2.1, [], σ.2.2.2.2) from cif_pos hfit] at hlay
  refine E_aload_n dX11_tells_149 rfl ?_
  refine GX11_129 sk_203 dX11_tells_150 ?_
  rw [h17]
  refine E_bipush dX11_tells_153 ?_
  refine E_icmp_eq 166 dX11_tells_155 (fun h155 => ?_) (fun h155 => ?_)
  · -- 166
    refine E_aload_n dX11_tells_166 rfl ?_
    refine E_iconst dX11_tells_167 ?_
    refine PX11_110 sk_203 dX11_tells_168 ?_
    refine E_aload_n dX11_tells_171 rfl ?_
    refine E_iload_n dX11_tells_172 rfl ?_
    refine E_iload_n dX11_tells_173 rfl ?_
    refine E_callVP dX11_tells_174 lkX11_157 (Hp_get sk_203) hlay (fun v M' hv => ?_)
    obtain ⟨rfl, -⟩ := id hv
    exact E_iret dX11_tells_177 (NQ.pre (fun q hq => by rw [eq q (by omega)]; exact ho.lo q hq) hv)
  · -- 158
    exact absurd rfl h155
theorem tl_loop {i : Int} (hi : isS i) (hM0 : RepM μ σ) (hG : stG σ) : ∀ (n : Nat) (r : List Int) (s : PS) (μ' : Mem) (w4 : Value), r.length < n → s.1 + r.length ≤ 100 → psGood s → psOk s → MTk μ' σ.2.2.2.1 r → μ' 203 17 = -9 → RepB μ' s.2.2.2 → OffW μ μ' →
    E G mX11_tells (Zq G mX11_tells (NQ μ (resT σ i (parseS n r s)))) 0 0 35 [.ref 203, vi i, vi s.1, vi s.2.1, w4] [] (Hp μ') := by
  have hx : txOk σ.2.2.2.1 := hG.1.2.2.2.2.1
  intro n
  induction n with
  | zero => intro r s μ' w4 e1; omega
  | succ n ih =>
    intro r s μ' w4 e1 e2 hg hok hS h17 hB ho
    have hM := hM0.off ho
    have hX := hM.2.2.2.1
    have hl1 := hX.2.1
    have h15 := hS.2.2.1
    have mr := modT_rng (hS.ok hx)
    have hlt := suf_len hS.2.2.2.2.2.2
    obtain ⟨p1, p2, p3, p4, p5, p6, p7⟩ := id hok
    obtain ⟨g1, g2, g3, g4, g5, g6, g7, g8, g9⟩ := id hg
    by_cases hE : tkK r = 257
    · rw [show parseS (n + 1) r s = (true, r, s) from cif_pos hE]
      have m0 := (modT_0 (hS.ok hx)).mpr hE
      have hfit : fitD s.2.2.2 := ⟨by omega, g4, by omega, by omega⟩
      rw [show resT σ i (true, r, s) = (s.1, setSh σ.1 i.toNat s.2.2.2, (σ.1 :: σ.2.1).take 6, σ.2.2.1, [], σ.2.2.2.2) by
        unfold resT
        rw [cif_pos rfl]
        exact cif_pos hfit]
      refine E_aload_n dX11_tells_35 rfl ?_
      refine GX11_129 sk_203 dX11_tells_36 ?_
      rw [h17]
      refine E_bipush dX11_tells_39 ?_
      refine E_icmp_ne 149 dX11_tells_41 (fun h41 => ?_) (fun h41 => ?_)
      · -- 149
        first | (exfalso; omega) | exact tl_end hi hG hM ho h17 hB hg hok
      · -- 44
        refine E_aload_n dX11_tells_44 rfl ?_
        refine GX11_122 sk_203 dX11_tells_45 ?_
        rw [h15]
        refine E_if_eq 149 dX11_tells_48 (fun h48 => ?_) (fun h48 => ?_)
        · -- 149
          first | (exfalso; omega) | exact tl_end hi hG hM ho h17 hB hg hok
        · -- 51
          exfalso; omega
    · have m0 : modT r ≠ 0 := fun h => hE ((modT_0 (hS.ok hx)).mp h)
      have hne : r ≠ [] := by rintro rfl; exact hE rfl
      have hlen : 0 < r.length := List.length_pos_iff.mpr hne
      have hk1 := itemS_ok hne hok (by omega)
      have hk2 := itemS_good hg ⟨p2, p4⟩ (r := r)
      have eP : parseS (n + 1) r s = cif ((itemS r s).1 = true) (parseS n (itemS r s).2.1 (itemS r s).2.2) (false, (itemS r s).2.1, s) := cif_neg hE
      have eNo : ∀ r' s', itemS r s = (false, r', s') → resT σ i (parseS (n + 1) r s) = (-10 - ((σ.2.2.2.1.length : Int) - r'.length), σ) := fun r' s' h => by
        rw [eP, h, cif_neg Bool.false_ne_true]
        exact cif_neg Bool.false_ne_true
      have eYes : ∀ r' s', itemS r s = (true, r', s') → parseS (n + 1) r s = parseS n r' s' := fun r' s' h => by
        rw [eP, h, cif_pos rfl]
      have m1 := modT_c (c := 111) (hS.ok hx) (by omega)
      have m2 := modT_c (c := 110) (hS.ok hx) (by omega)
      have m3 := modT_c (c := 102) (hS.ok hx) (by omega)
      have FIN : ∀ (r' : List Int) (s' : PS) (μ1 : Mem) (w4 : Value), itemS r s = finS r' s' → MTk μ1 σ.2.2.2.1 r' → μ1 203 17 = -9 → RepB μ1 s'.2.2.2 → OffW μ μ1 → E G mX11_tells (Zq G mX11_tells (NQ μ (resT σ i (parseS (n + 1) r s)))) 0 0 125 [.ref 203, vi i, vi s'.1, vi s'.2.1, w4] [] (Hp μ1) := by
        intro r' s' μ1 w4 he f1 f2 f3 f4
        refine tl_fin hx (hM0.off f4) f4 f1 f2 f3 (fun q => ?_) (fun q => ?_)
        · have he2 : itemS r s = (true, nxt r', (s'.1 + 1, s'.2.1, s'.2.2.1, s'.2.2.2)) := by rw [he]; exact cif_pos q
          intro μ2 w4 k1 k2 k3 k4
          rw [eYes _ _ he2]
          have b := hk1 (by rw [he2])
          have c := hk2 (by rw [he2])
          rw [he2] at b c
          have b1 : (nxt r').length < r.length := b.1
          have b2 : s'.1 + 1 = s.1 + 1 := b.2.1
          exact ih (nxt r') (s'.1 + 1, s'.2.1, s'.2.2.1, s'.2.2.2) μ2 w4 (by omega) (by simp only; omega) c.1 b.2.2 k1 k2 k3 k4
        · have he2 : itemS r s = (false, r', s') := by rw [he]; exact cif_neg q
          rw [eNo _ _ he2]
          exact fun v M h => h
      have NO : ∀ (r' : List Int) (s' : PS) (c2 c3 : Int) (μ1 : Mem) (w4 : Value), itemS r s = (false, r', s') → μ1 203 17 = (σ.2.2.2.1.length : Int) - r'.length → r'.length ≤ r.length → OffW μ μ1 → E G mX11_tells (Zq G mX11_tells (NQ μ (resT σ i (parseS (n + 1) r s)))) 0 0 125 [.ref 203, vi i, vi c2, vi c3, w4] [] (Hp μ1) := by
        intro r' s' c2 c3 μ1 w4 he f1 f2 f3
        rw [eNo _ _ he]
        exact tl_flt (hM0.off f3) f3 f1 (by omega)
      have F0 : ∀ (c2 c3 : Int) (w4 : Value), itemS r s = (false, r, s) → E G mX11_tells (Zq G mX11_tells (NQ μ (resT σ i (parseS (n + 1) r s)))) 0 0 117 [.ref 203, vi i, vi c2, vi c3, w4] [] (Hp μ') := by
        intro c2 c3 w4 he
        refine E_aload_n dX11_tells_117 rfl (E_aload_n dX11_tells_118 rfl (GX11_116 sk_203 dX11_tells_119 (PX11_129 sk_203 dX11_tells_122 ?_)))
        exact NO r s c2 c3 _ w4 he (by rw [up_r, if_pos rfl]; exact hS.2.1) (Nat.le_refl _) (ho.fld (by omega))
      by_cases hb : tkK r = 111 ∨ tkK r = 110
      · have e1 : itemS r s = cif (s.1 = 0) (cif (okB r) (finS (nxt (nxt r)) (s.1, s.2.1, s.2.2.1, (kB r, tkV (nxt r), 0, []))) (false, nxt r, s)) (false, r, s) := cif_pos hb
        have mb : modT r = 111 ∨ modT r = 110 := hb.elim (fun h => Or.inl (m1.mpr h)) (fun h => Or.inr (m2.mpr h))
        by_cases h0 : s.1 = 0
        · rw [cif_pos h0] at e1
          have z := g9 h0
          have zl : s.2.2.2.2.2.2 = [] := List.length_eq_zero_iff.mp (by omega)
          have zs : s.2.2.2.2.2.1 = 0 := by omega
          have TL : ∀ (μ1 : Mem) (w4 : Value), MBase μ' σ.2.2.2.1 r s.2.2.2 μ1 → E G mX11_tells (Zq G mX11_tells (NQ μ (resT σ i (parseS (n + 1) r s)))) 0 0 125 [.ref 203, vi i, vi s.1, vi s.2.1, w4] [] (Hp μ1) := by
            rintro μ1 w4 ⟨a1, ⟨b1, b2, b3, b4⟩ | ⟨b1, b2⟩⟩
            · rw [cif_pos b1] at e1
              rw [zl, zs] at b4
              exact FIN _ (s.1, s.2.1, s.2.2.1, (kB r, tkV (nxt r), 0, [])) μ1 w4 e1 b2 b3 b4 (ho.tr a1)
            · rw [cif_neg b1] at e1
              exact NO _ s _ _ μ1 w4 e1 b2 (nxt_len r).1 (ho.tr a1)
          refine E_aload_n dX11_tells_35 rfl ?_
          refine GX11_129 sk_203 dX11_tells_36 ?_
          rw [h17]
          refine E_bipush dX11_tells_39 ?_
          refine E_icmp_ne 149 dX11_tells_41 (fun h41 => ?_) (fun h41 => ?_)
          · -- 149
            exfalso; omega
          · -- 44
            refine E_aload_n dX11_tells_44 rfl ?_
            refine GX11_122 sk_203 dX11_tells_45 ?_
            rw [h15]
            refine E_if_eq 149 dX11_tells_48 (fun h48 => ?_) (fun h48 => ?_)
            · -- 149
              exfalso; omega
            · -- 51
              refine E_aload_n dX11_tells_51 rfl ?_
              refine GX11_122 sk_203 dX11_tells_52 ?_
              rw [h15]
              refine E_bipush dX11_tells_55 ?_
              refine E_icmp_eq 69 dX11_tells_57 (fun h57 => ?_) (fun h57 => ?_)
              · -- 69
                refine E_iconst dX11_tells_69 ?_
                refine E_goto 74 dX11_tells_70 ?_
                refine E_istore dX11_tells_74 ?_
                refine E_iload dX11_tells_76 rfl ?_
                refine E_if_eq 92 dX11_tells_78 (fun h78 => ?_) (fun h78 => ?_)
                · -- 92
                  exfalso; omega
                · -- 81
                  refine E_iload_n dX11_tells_81 rfl ?_
                  refine E_if_ne 92 dX11_tells_82 (fun h82 => ?_) (fun h82 => ?_)
                  · -- 92
                    exfalso; omega
                  · -- 85
                    refine E_aload_n dX11_tells_85 rfl ?_
                    refine E_callVV dX11_tells_86 lkX11_151 (Hp_get sk_203) (m_readBase hX hx hS h17 hB hb) ?_
                    rintro μ1 a1
                    refine E_goto 125 dX11_tells_89 ?_
                    exact TL μ1 _ a1
              · -- 60
                refine E_aload_n dX11_tells_60 rfl ?_
                refine GX11_122 sk_203 dX11_tells_61 ?_
                rw [h15]
                refine E_bipush dX11_tells_64 ?_
                refine E_icmp_ne 73 dX11_tells_66 (fun h66 => ?_) (fun h66 => ?_)
                · -- 73
                  exfalso; omega
                · -- 69
                  refine E_iconst dX11_tells_69 ?_
                  refine E_goto 74 dX11_tells_70 ?_
                  refine E_istore dX11_tells_74 ?_
                  refine E_iload dX11_tells_76 rfl ?_
                  refine E_if_eq 92 dX11_tells_78 (fun h78 => ?_) (fun h78 => ?_)
                  · -- 92
                    exfalso; omega
                  · -- 81
                    refine E_iload_n dX11_tells_81 rfl ?_
                    refine E_if_ne 92 dX11_tells_82 (fun h82 => ?_) (fun h82 => ?_)
                    · -- 92
                      exfalso; omega
                    · -- 85
                      refine E_aload_n dX11_tells_85 rfl ?_
                      refine E_callVV dX11_tells_86 lkX11_151 (Hp_get sk_203) (m_readBase hX hx hS h17 hB hb) ?_
                      rintro μ1 a1
                      refine E_goto 125 dX11_tells_89 ?_
                      exact TL μ1 _ a1
        · rw [cif_neg h0] at e1
          refine E_aload_n dX11_tells_35 rfl ?_
          refine GX11_129 sk_203 dX11_tells_36 ?_
          rw [h17]
          refine E_bipush dX11_tells_39 ?_
          refine E_icmp_ne 149 dX11_tells_41 (fun h41 => ?_) (fun h41 => ?_)
          · -- 149
            exfalso; omega
          · -- 44
            refine E_aload_n dX11_tells_44 rfl ?_
            refine GX11_122 sk_203 dX11_tells_45 ?_
            rw [h15]
            refine E_if_eq 149 dX11_tells_48 (fun h48 => ?_) (fun h48 => ?_)
            · -- 149
              exfalso; omega
            · -- 51
              refine E_aload_n dX11_tells_51 rfl ?_
              refine GX11_122 sk_203 dX11_tells_52 ?_
              rw [h15]
              refine E_bipush dX11_tells_55 ?_
              refine E_icmp_eq 69 dX11_tells_57 (fun h57 => ?_) (fun h57 => ?_)
              · -- 69
                refine E_iconst dX11_tells_69 ?_
                refine E_goto 74 dX11_tells_70 ?_
                refine E_istore dX11_tells_74 ?_
                refine E_iload dX11_tells_76 rfl ?_
                refine E_if_eq 92 dX11_tells_78 (fun h78 => ?_) (fun h78 => ?_)
                · -- 92
                  refine E_aload_n dX11_tells_92 rfl ?_
                  refine GX11_122 sk_203 dX11_tells_93 ?_
                  rw [h15]
                  refine E_bipush dX11_tells_96 ?_
                  refine E_icmp_ne 117 dX11_tells_98 (fun h98 => ?_) (fun h98 => ?_)
                  · -- 117
                    first | (exfalso; omega) | exact F0 _ _ _ e1
                  · -- 101
                    exfalso; omega
                · -- 81
                  refine E_iload_n dX11_tells_81 rfl ?_
                  refine E_if_ne 92 dX11_tells_82 (fun h82 => ?_) (fun h82 => ?_)
                  · -- 92
                    refine E_aload_n dX11_tells_92 rfl ?_
                    refine GX11_122 sk_203 dX11_tells_93 ?_
                    rw [h15]
                    refine E_bipush dX11_tells_96 ?_
                    refine E_icmp_ne 117 dX11_tells_98 (fun h98 => ?_) (fun h98 => ?_)
                    · -- 117
                      first | (exfalso; omega) | exact F0 _ _ _ e1
                    · -- 101
                      exfalso; omega
                  · -- 85
                    exfalso; omega
              · -- 60
                refine E_aload_n dX11_tells_60 rfl ?_
                refine GX11_122 sk_203 dX11_tells_61 ?_
                rw [h15]
                refine E_bipush dX11_tells_64 ?_
                refine E_icmp_ne 73 dX11_tells_66 (fun h66 => ?_) (fun h66 => ?_)
                · -- 73
                  exfalso; omega
                · -- 69
                  refine E_iconst dX11_tells_69 ?_
                  refine E_goto 74 dX11_tells_70 ?_
                  refine E_istore dX11_tells_74 ?_
                  refine E_iload dX11_tells_76 rfl ?_
                  refine E_if_eq 92 dX11_tells_78 (fun h78 => ?_) (fun h78 => ?_)
                  · -- 92
                    refine E_aload_n dX11_tells_92 rfl ?_
                    refine GX11_122 sk_203 dX11_tells_93 ?_
                    rw [h15]
                    refine E_bipush dX11_tells_96 ?_
                    refine E_icmp_ne 117 dX11_tells_98 (fun h98 => ?_) (fun h98 => ?_)
                    · -- 117
                      first | (exfalso; omega) | exact F0 _ _ _ e1
                    · -- 101
                      exfalso; omega
                  · -- 81
                    refine E_iload_n dX11_tells_81 rfl ?_
                    refine E_if_ne 92 dX11_tells_82 (fun h82 => ?_) (fun h82 => ?_)
                    · -- 92
                      refine E_aload_n dX11_tells_92 rfl ?_
                      refine GX11_122 sk_203 dX11_tells_93 ?_
                      rw [h15]
                      refine E_bipush dX11_tells_96 ?_
                      refine E_icmp_ne 117 dX11_tells_98 (fun h98 => ?_) (fun h98 => ?_)
                      · -- 117
                        first | (exfalso; omega) | exact F0 _ _ _ e1
                      · -- 101
                        exfalso; omega
                    · -- 85
                      exfalso; omega
      · have e1 : itemS r s = cif (tkK r = 102 ∧ s.2.1 < 8) (cif (okP1 r s.2.2.1) (cif (okP2 r) (finS (nxt (rB r)) (s.1, s.2.1 + 1, (if tkV (nxt r) = 1 then s.2.2.1 else s.2.2.1 + 1), put s.2.2.2 (tkV (nxt r)) (sB r * tkV (rB r)))) (false, rB r, s)) (false, nxt r, s)) (false, r, s) := cif_neg hb
        have mb : modT r ≠ 111 ∧ modT r ≠ 110 := ⟨fun h => hb (Or.inl (m1.mp h)), fun h => hb (Or.inr (m2.mp h))⟩
        by_cases h0 : tkK r = 102 ∧ s.2.1 < 8
        · rw [cif_pos h0] at e1
          have mf := m3.mpr h0.1
          have TL : ∀ (μ1 : Mem) (w4 : Value), MPair μ' σ.2.2.2.1 r s.2.2.2 μ1 → E G mX11_tells (Zq G mX11_tells (NQ μ (resT σ i (parseS (n + 1) r s)))) 0 0 125 [.ref 203, vi i, vi s.1, vi (s.2.1 + 1), w4] [] (Hp μ1) := by
            rintro μ1 w4 ⟨a1, a2⟩
            rw [g7] at a2
            rcases a2 with ⟨b1, b2, b3, b4, b5⟩ | ⟨b1, b2, b3⟩ | ⟨b1, b2⟩
            · rw [cif_pos b1, cif_pos b2] at e1
              exact FIN _ (s.1, s.2.1 + 1, (if tkV (nxt r) = 1 then s.2.2.1 else s.2.2.1 + 1), put s.2.2.2 (tkV (nxt r)) (sB r * tkV (rB r))) μ1 w4 e1 b3 b4 b5 (ho.tr a1)
            · rw [cif_pos b1, cif_neg b2] at e1
              exact NO _ s _ _ μ1 w4 e1 b3 (Nat.le_trans (rB_len r) (nxt_len r).1) (ho.tr a1)
            · rw [cif_neg b1] at e1
              exact NO _ s _ _ μ1 w4 e1 b2 (nxt_len r).1 (ho.tr a1)
          refine E_aload_n dX11_tells_35 rfl ?_
          refine GX11_129 sk_203 dX11_tells_36 ?_
          rw [h17]
          refine E_bipush dX11_tells_39 ?_
          refine E_icmp_ne 149 dX11_tells_41 (fun h41 => ?_) (fun h41 => ?_)
          · -- 149
            exfalso; omega
          · -- 44
            refine E_aload_n dX11_tells_44 rfl ?_
            refine GX11_122 sk_203 dX11_tells_45 ?_
            rw [h15]
            refine E_if_eq 149 dX11_tells_48 (fun h48 => ?_) (fun h48 => ?_)
            · -- 149
              exfalso; omega
            · -- 51
              refine E_aload_n dX11_tells_51 rfl ?_
              refine GX11_122 sk_203 dX11_tells_52 ?_
              rw [h15]
              refine E_bipush dX11_tells_55 ?_
              refine E_icmp_eq 69 dX11_tells_57 (fun h57 => ?_) (fun h57 => ?_)
              · -- 69
                exfalso; omega
              · -- 60
                refine E_aload_n dX11_tells_60 rfl ?_
                refine GX11_122 sk_203 dX11_tells_61 ?_
                rw [h15]
                refine E_bipush dX11_tells_64 ?_
                refine E_icmp_ne 73 dX11_tells_66 (fun h66 => ?_) (fun h66 => ?_)
                · -- 73
                  refine E_iconst dX11_tells_73 ?_
                  refine E_istore dX11_tells_74 ?_
                  refine E_iload dX11_tells_76 rfl ?_
                  refine E_if_eq 92 dX11_tells_78 (fun h78 => ?_) (fun h78 => ?_)
                  · -- 92
                    refine E_aload_n dX11_tells_92 rfl ?_
                    refine GX11_122 sk_203 dX11_tells_93 ?_
                    rw [h15]
                    refine E_bipush dX11_tells_96 ?_
                    refine E_icmp_ne 117 dX11_tells_98 (fun h98 => ?_) (fun h98 => ?_)
                    · -- 117
                      exfalso; omega
                    · -- 101
                      refine E_iload_n dX11_tells_101 rfl ?_
                      refine E_bipush dX11_tells_102 ?_
                      refine E_icmp_ge 117 dX11_tells_104 (fun h104 => ?_) (fun h104 => ?_)
                      · -- 117
                        exfalso; omega
                      · -- 107
                        refine E_aload_n dX11_tells_107 rfl ?_
                        refine E_callVV dX11_tells_108 lkX11_154 (Hp_get sk_203) (m_readPair hX hx hS h17 hB p1 (by omega)) ?_
                        rintro μ1 a1
                        refine E_iinc dX11_tells_111 rfl ?_
                        refine E_goto 125 dX11_tells_114 ?_
                        exact TL μ1 _ a1
                  · -- 81
                    exfalso; omega
                · -- 69
                  exfalso; omega
        · rw [cif_neg h0] at e1
          have mf : modT r = 102 → ¬ s.2.1 < 8 := fun h h' => h0 ⟨m3.mp h, h'⟩
          refine E_aload_n dX11_tells_35 rfl ?_
          refine GX11_129 sk_203 dX11_tells_36 ?_
          rw [h17]
          refine E_bipush dX11_tells_39 ?_
          refine E_icmp_ne 149 dX11_tells_41 (fun h41 => ?_) (fun h41 => ?_)
          · -- 149
            exfalso; omega
          · -- 44
            refine E_aload_n dX11_tells_44 rfl ?_
            refine GX11_122 sk_203 dX11_tells_45 ?_
            rw [h15]
            refine E_if_eq 149 dX11_tells_48 (fun h48 => ?_) (fun h48 => ?_)
            · -- 149
              exfalso; omega
            · -- 51
              refine E_aload_n dX11_tells_51 rfl ?_
              refine GX11_122 sk_203 dX11_tells_52 ?_
              rw [h15]
              refine E_bipush dX11_tells_55 ?_
              refine E_icmp_eq 69 dX11_tells_57 (fun h57 => ?_) (fun h57 => ?_)
              · -- 69
                exfalso; omega
              · -- 60
                refine E_aload_n dX11_tells_60 rfl ?_
                refine GX11_122 sk_203 dX11_tells_61 ?_
                rw [h15]
                refine E_bipush dX11_tells_64 ?_
                refine E_icmp_ne 73 dX11_tells_66 (fun h66 => ?_) (fun h66 => ?_)
                · -- 73
                  refine E_iconst dX11_tells_73 ?_
                  refine E_istore dX11_tells_74 ?_
                  refine E_iload dX11_tells_76 rfl ?_
                  refine E_if_eq 92 dX11_tells_78 (fun h78 => ?_) (fun h78 => ?_)
                  · -- 92
                    refine E_aload_n dX11_tells_92 rfl ?_
                    refine GX11_122 sk_203 dX11_tells_93 ?_
                    rw [h15]
                    refine E_bipush dX11_tells_96 ?_
                    refine E_icmp_ne 117 dX11_tells_98 (fun h98 => ?_) (fun h98 => ?_)
                    · -- 117
                      exact F0 _ _ _ e1
                    · -- 101
                      refine E_iload_n dX11_tells_101 rfl ?_
                      refine E_bipush dX11_tells_102 ?_
                      refine E_icmp_ge 117 dX11_tells_104 (fun h104 => ?_) (fun h104 => ?_)
                      · -- 117
                        exact F0 _ _ _ e1
                      · -- 107
                        exfalso; omega
                  · -- 81
                    exfalso; omega
                · -- 69
                  exfalso; omega
theorem m_tells {i : Int} (hi : -2147483648 ≤ i ∧ i < 2147483648) (hM : RepM μ σ) (hG : stG σ) : Ctr G mX11_tells [.ref 203, vi i] (Hp μ) (NQ μ (sTells σ i)) := by
  refine Ctr.of ?_
  have hsi := m_isSpace (G := G) (M := Hp μ) hi
  have hx : txOk σ.2.2.2.1 := hG.1.2.2.2.2.1
  have hX := hM.2.2.2.1
  have hl := hX.2.1
  by_cases q1 : isS i
  · rw [cif_pos q1] at hsi
    rw [show sTells σ i = resT σ i (tellS σ.2.2.2.1) from cif_neg (not_not_intro q1)]
    have hsl : (skipB σ.2.2.2.1).length ≤ σ.2.2.2.1.length := dw_len σ.2.2.2.1
    refine E_iload_n dX11_tells_0 rfl ?_
    refine E_callSR dX11_tells_1 lkX11_147 (hsi) ?_
    refine E_if_ne 9 dX11_tells_4 (fun h4 => ?_) (fun h4 => ?_)
    · -- 9
      refine E_aload_n dX11_tells_9 rfl ?_
      refine E_iconst dX11_tells_10 ?_
      refine E_iconst dX11_tells_11 ?_
      refine E_iconst dX11_tells_12 ?_
      refine E_callVV dX11_tells_13 lkX11_96 (Hp_get sk_203) (m_begin) ?_
      rintro μ1 ⟨a1, a2⟩
      have b2 : OffW μ1 (up (up μ1 203 13 0) 203 17 (-9)) := (OffW.rf.fld (by omega)).fld (by omega)
      have hX2 := (a2.w.tr b2).x hX
      have hB2 : RepB (up (up μ1 203 13 0) 203 17 (-9)) (0, 0, 0, []) := ⟨by rw [up_r, if_neg (by omega), up_r, if_neg (by omega)]; exact a1.1, by rw [up_r, if_neg (by omega), up_r, if_neg (by omega)]; exact a1.2.1, by rw [up_r, if_neg (by omega), up_r, if_neg (by omega)]; exact a1.2.2.1, by rw [up_r, if_neg (by omega), up_r, if_neg (by omega)]; exact a1.2.2.2.1, fun k x hk => by simp at hk⟩
      refine E_aload_n dX11_tells_16 rfl ?_
      refine E_iconst dX11_tells_17 ?_
      refine PX11_113 sk_203 dX11_tells_18 ?_
      refine E_aload_n dX11_tells_21 rfl ?_
      refine E_bipush dX11_tells_22 ?_
      refine PX11_129 sk_203 dX11_tells_24 ?_
      refine E_iconst dX11_tells_27 ?_
      refine E_istore_n dX11_tells_28 ?_
      refine E_iconst dX11_tells_29 ?_
      refine E_istore_n dX11_tells_30 ?_
      refine E_aload_n dX11_tells_31 rfl ?_
      refine E_callVV dX11_tells_32 lkX11_132 (Hp_get sk_203) (m_next0 (r0 := σ.2.2.2.1) hX2 hx (by rw [up_r, if_neg (by omega), up_r, if_pos rfl]; omega) ⟨[], rfl⟩) ?_
      rintro μ2 ⟨c1, c2⟩
      exact tl_loop (μ := μ) q1 hM hG 101 (skipB σ.2.2.2.1) (0, 0, 0, (0, 0, 0, [])) μ2 _ (by omega) (by simp only; omega) ⟨fun x hx => by simp at hx, Or.inl rfl, by simp, by simp, by simp, by simp, by simp, by simp, fun _ => ⟨rfl, rfl⟩⟩ ⟨fun y hy => by simp at hy, by simp, by simp, by simp, by simp, by simp, by simp⟩ c1 (by rw [c2.2 17 (by omega), up_r, if_pos rfl]) (c2.b hB2) ((a2.w.tr b2).tr c2.w)
    · -- 7
      exact absurd h4 (by decide)
  · rw [cif_neg q1] at hsi
    rw [show sTells σ i = (-1, σ) from cif_pos q1]
    refine E_iload_n dX11_tells_0 rfl ?_
    refine E_callSR dX11_tells_1 lkX11_147 (hsi) ?_
    refine E_if_ne 9 dX11_tells_4 (fun h4 => ?_) (fun h4 => ?_)
    · -- 9
      exact absurd rfl h4
    · -- 7
      refine E_iconst dX11_tells_7 ?_
      refine E_iret dX11_tells_8 ?_
      exact ⟨rfl, _, rfl, hM, fun _ _ => rfl⟩
end MTEXT
