/-! FibredSpacesModel: rows: what is dropped, what is sorted -/
section MROWS
variable {G : GT} {μ : Mem} {M : HV} {σ : St}
/-- nothing but the rows, their number and the grid has changed -/
def OffR (μ μ' : Mem) : Prop := (∀ q : Nat, q ≠ 203 → q ≠ 211 → q ≠ 212 → q ≠ 213 → μ' q = μ q) ∧ ∀ j : Int, j ≠ 21 → μ' 203 j = μ 203 j
theorem OffR.rf : OffR μ μ := ⟨fun _ _ _ _ _ => rfl, fun _ _ => rfl⟩
theorem OffR.tr {μ1 μ2 : Mem} (h : OffR μ μ1) (h' : OffR μ1 μ2) : OffR μ μ2 := ⟨fun q a b c d => by rw [h'.1 q a b c d, h.1 q a b c d], fun j hj => by rw [h'.2 j hj, h.2 j hj]⟩
theorem OffR.row {μ1 : Mem} {j x : Int} (h : OffR μ μ1) : OffR μ (up μ1 211 j x) := ⟨fun q a b c d => by rw [up_ne q b]; exact h.1 q a b c d, fun i hi => by rw [up_ne 203 (by decide)]; exact h.2 i hi⟩
theorem OffR.fld {μ1 : Mem} {x : Int} (h : OffR μ μ1) : OffR μ (up μ1 203 21 x) := ⟨fun q a b c d => by rw [up_ne q a]; exact h.1 q a b c d, fun i hi => by rw [up_r, if_neg hi]; exact h.2 i hi⟩
theorem OffG.r {μ' : Mem} (h : OffG μ μ') : OffR μ μ' := ⟨fun q _ _ c d => h q c d, fun j _ => by rw [h 203 (by decide) (by decide)]⟩
theorem OffR.w {μ' : Mem} (h : OffR μ μ') : OffW μ μ' := ⟨fun q a _ _ b c d _ _ => h.1 q a b c d, fun j hj => h.2 j (by omega)⟩
theorem OffR.now {μ' : Mem} (h : OffR μ μ') : μ' 204 = μ 204 := h.1 204 (by decide) (by decide) (by decide) (by decide)
def RowQ (μ : Mem) (T : List Int) : Prop := μ 203 21 = T.length ∧ RepV μ 211 T
theorem fold_len : ∀ (l T : List Int), (l.foldl add1 T).length ≤ T.length + l.length := fold_add_len
theorem do_loop {R : List Int} (hR : R.length = 8) (hr : ∀ x ∈ R, -4000000000000000000 ≤ x ∧ x ≤ 4000000000000000000) : ∀ (q p : List Int) (μ' : Mem), p ++ q = R → RowQ μ' (p.foldl add1 []) → (∀ j : Nat, p.length ≤ j → ∀ x, R[j]? = some x → μ' 211 j = x) → OffR μ μ' →
    E G mX11_dropOnes (Zq G mX11_dropOnes (V0 (fun μ' => RowQ μ' (R.foldl add1 []) ∧ OffR μ μ'))) 0 0 7 [.ref 203, vi (p.length : Int)] [] (Hp μ') := by
  intro q
  induction q with
  | nil =>
    intro p μ' e h1 h2 h3
    have hl : p.length = 8 := by rw [← hR, ← e]; simp
    have hp : p = R := by rw [← e]; simp
    subst hp
    refine E_iload_n dX11_dropOnes_7 rfl ?_
    refine E_bipush dX11_dropOnes_8 ?_
    refine E_icmp_ge 55 dX11_dropOnes_10 (fun h10 => ?_) (fun h10 => ?_)
    · -- 55
      refine E_vret dX11_dropOnes_55 ?_
      exact ⟨rfl, _, rfl, h1, h3⟩
    · -- 13
      exfalso; omega
  | cons x q ih =>
    intro p μ' e h1 h2 h3
    have hl : p.length + 1 + q.length = 8 := by rw [← hR, ← e]; simp; omega
    have hx := hr x (by rw [← e]; simp)
    have hv : μ' 211 (p.length : Int) = x := h2 p.length (Nat.le_refl _) x (by rw [← e]; simp)
    have hT := fold_len p []
    simp only [List.length_nil] at hT
    obtain ⟨k1, k2⟩ := h1
    by_cases q1 : 1 < x
    · have ef : (p ++ [x]).foldl add1 [] = p.foldl add1 [] ++ [x] := by rw [List.foldl_append]; show add1 _ x = _; unfold add1; rw [if_pos q1]
      have t := ih (p ++ [x]) (up (up μ' 211 ((p.foldl add1 []).length : Int) x) 203 21 (((p.foldl add1 []).length : Int) + 1)) (by rw [← e]; simp) (by
        rw [ef]
        exact ⟨by rw [up_r, if_pos rfl]; simp, (k2.push x).kept (up_ne 211 (by decide))⟩) (fun j hj y hy => by
        simp at hj
        rw [up_ne 211 (by decide), up_r, if_neg (by omega)]
        exact h2 j (by omega) y hy) (h3.row.fld)
      rw [show ((p ++ [x]).length : Int) = (p.length : Int) + 1 by simp] at t
      refine E_iload_n dX11_dropOnes_7 rfl ?_
      refine E_bipush dX11_dropOnes_8 ?_
      refine E_icmp_ge 55 dX11_dropOnes_10 (fun h10 => ?_) (fun h10 => ?_)
      · -- 55
        exfalso; omega
      · -- 13
        refine E_aload_n dX11_dropOnes_13 rfl ?_
        refine GX11_32 sk_203 dX11_dropOnes_14 ?_
        refine E_iload_n dX11_dropOnes_17 rfl ?_
        refine H_lald sk_211 dX11_dropOnes_18 ?_
        rw [hv]
        refine E_lconst1 dX11_dropOnes_19 ?_
        refine E_lcmp_le 49 dX11_dropOnes_20 dX11_dropOnes_21 (fun h20 => ?_) (fun h20 => ?_)
        · -- 49
          refine E_iinc dX11_dropOnes_49 rfl ?_
          refine E_goto 7 dX11_dropOnes_52 ?_
          first | (exfalso; omega) | exact t
        · -- 24
          refine E_aload_n dX11_dropOnes_24 rfl ?_
          refine GX11_32 sk_203 dX11_dropOnes_25 ?_
          refine E_aload_n dX11_dropOnes_28 rfl ?_
          refine GX11_214 sk_203 dX11_dropOnes_29 ?_
          rw [k1]
          refine E_aload_n dX11_dropOnes_32 rfl ?_
          refine GX11_32 sk_203 dX11_dropOnes_33 ?_
          refine E_iload_n dX11_dropOnes_36 rfl ?_
          refine H_lald sk_211 dX11_dropOnes_37 ?_
          rw [hv]
          refine H_last sk_211 dX11_dropOnes_38 ?_
          refine E_aload_n dX11_dropOnes_39 rfl ?_
          refine E_dup dX11_dropOnes_40 ?_
          refine GX11_214 sk_203 dX11_dropOnes_41 ?_
          rw [up_ne 203 (by decide), k1]
          refine E_iconst dX11_dropOnes_44 ?_
          refine E_iadd dX11_dropOnes_45 ?_
          refine PX11_214 sk_203 dX11_dropOnes_46 ?_
          refine E_iinc dX11_dropOnes_49 rfl ?_
          refine E_goto 7 dX11_dropOnes_52 ?_
          first | (exfalso; omega) | exact t
    · have ef : (p ++ [x]).foldl add1 [] = p.foldl add1 [] := by rw [List.foldl_append]; show add1 _ x = _; unfold add1; rw [if_neg q1]
      have t := ih (p ++ [x]) μ' (by rw [← e]; simp) (by rw [ef]; exact ⟨k1, k2⟩) (fun j hj y hy => h2 j (by simp at hj; omega) y hy) h3
      rw [show ((p ++ [x]).length : Int) = (p.length : Int) + 1 by simp] at t
      refine E_iload_n dX11_dropOnes_7 rfl ?_
      refine E_bipush dX11_dropOnes_8 ?_
      refine E_icmp_ge 55 dX11_dropOnes_10 (fun h10 => ?_) (fun h10 => ?_)
      · -- 55
        exfalso; omega
      · -- 13
        refine E_aload_n dX11_dropOnes_13 rfl ?_
        refine GX11_32 sk_203 dX11_dropOnes_14 ?_
        refine E_iload_n dX11_dropOnes_17 rfl ?_
        refine H_lald sk_211 dX11_dropOnes_18 ?_
        rw [hv]
        refine E_lconst1 dX11_dropOnes_19 ?_
        refine E_lcmp_le 49 dX11_dropOnes_20 dX11_dropOnes_21 (fun h20 => ?_) (fun h20 => ?_)
        · -- 49
          refine E_iinc dX11_dropOnes_49 rfl ?_
          refine E_goto 7 dX11_dropOnes_52 ?_
          exact t
        · -- 24
          exfalso; omega
theorem m_dropOnes {R : List Int} (hR : R.length = 8) (hr : ∀ x ∈ R, -4000000000000000000 ≤ x ∧ x ≤ 4000000000000000000) (hv : RepV μ 211 R) : Ctr G mX11_dropOnes [.ref 203] (Hp μ) (V0 (fun μ' => RowQ μ' (R.foldl add1 []) ∧ OffR μ μ')) := by
  refine Ctr.of ?_
  refine E_aload_n dX11_dropOnes_0 rfl ?_
  refine E_iconst dX11_dropOnes_1 ?_
  refine PX11_214 sk_203 dX11_dropOnes_2 ?_
  refine E_iconst dX11_dropOnes_5 ?_
  refine E_istore_n dX11_dropOnes_6 ?_
  exact do_loop (μ := μ) hR hr R [] _ rfl ⟨by rw [up_r, if_pos rfl]; rfl, RepV.nil⟩ (fun j _ x hx => by rw [up_ne 211 (by decide)]; exact hv j x hx) OffR.rf.fld
theorem sr_inner {N : Nat} (hN : N ≤ 8) {Q : QT} (p : List Int) : ∀ (t d : List Int) (c : Int) (w : Value) (μ' : Mem), (p ++ c :: (d ++ t)).length = N → RepV μ' 211 (p ++ c :: (d ++ t)) → okL (p ++ c :: (d ++ t)) → OffR μ μ' →
    (∀ (w w' : Value) (μ2 : Mem), RepV μ2 211 (p ++ (sweep c t).1 :: (d ++ (sweep c t).2)) → okL (p ++ (sweep c t).1 :: (d ++ (sweep c t).2)) → OffR μ μ2 → E G mX11_sortRows (Zq G mX11_sortRows Q) 0 0 69 [.ref 203, vi (N : Int), vi (p.length : Int), w', w, .retAddr 0] [] (Hp μ2)) →
    E G mX11_sortRows (Zq G mX11_sortRows Q) 0 0 11 [.ref 203, vi (N : Int), vi (p.length : Int), vi ((p.length : Int) + 1 + d.length), w, .retAddr 0] [] (Hp μ') := by
  intro t
  induction t with
  | nil =>
    intro d c w μ' h1 h2 h3 h4 hk
    simp at h1
    refine E_iload_n dX11_sortRows_11 rfl ?_
    refine E_iload_n dX11_sortRows_12 rfl ?_
    refine E_icmp_ge 69 dX11_sortRows_13 (fun h13 => ?_) (fun h13 => ?_)
    · -- 69
      exact hk _ _ μ' h2 h3 h4
    · -- 16
      exfalso; omega
  | cons y t ih =>
    intro d c w μ' h1 h2 h3 h4 hk
    have h1' := h1
    simp at h1'
    have hc := h3.le (x := c) (by simp)
    have hy := h3.le (x := y) (by simp)
    have e1 : μ' 211 p.length = c := h2.mid
    have e2 : μ' 211 ((p.length : Int) + 1 + d.length) = y := by
      have := RepV.mid (p := p ++ c :: d) (x := y) (t := t) (by simpa using h2)
      simp at this
      rw [show (p.length : Int) + 1 + d.length = (p.length : Int) + ((d.length : Int) + 1) by omega]
      exact this
    obtain ⟨g1, g2, g3, g4⟩ := gp hc.1 hy.1
    have h5 := okL_step h3
    have ed : c.tdiv (Int.gcd c y : Int) * y = y * (c / (Int.gcd c y : Int)) := by rw [Int.tdiv_eq_ediv_of_nonneg (by omega), Int.mul_comm]
    have h6 : RepV (up (up μ' 211 ((p.length : Int) + 1 + d.length) (y * (c / (Int.gcd c y : Int)))) 211 p.length (Int.gcd c y)) 211 (p ++ (Int.gcd c y : Int) :: (d ++ y * (c / (Int.gcd c y : Int)) :: t)) := by
      refine RepV.set (x := c) _ ?_
      have := RepV.set (p := p ++ c :: d) (x := y) (t := t) (y * (c / (Int.gcd c y : Int))) (by simpa using h2)
      simp at this
      rw [show (p.length : Int) + 1 + d.length = (p.length : Int) + ((d.length : Int) + 1) by omega]
      exact this
    refine E_iload_n dX11_sortRows_11 rfl ?_
    refine E_iload_n dX11_sortRows_12 rfl ?_
    refine E_icmp_ge 69 dX11_sortRows_13 (fun h13 => ?_) (fun h13 => ?_)
    · -- 69
      exfalso; omega
    · -- 16
      refine E_aload_n dX11_sortRows_16 rfl ?_
      refine GX11_32 sk_203 dX11_sortRows_17 ?_
      refine E_iload_n dX11_sortRows_20 rfl ?_
      refine H_lald sk_211 dX11_sortRows_21 ?_
      rw [e1]
      refine E_aload_n dX11_sortRows_22 rfl ?_
      refine GX11_32 sk_203 dX11_sortRows_23 ?_
      refine E_iload_n dX11_sortRows_26 rfl ?_
      refine H_lald sk_211 dX11_sortRows_27 ?_
      rw [e2]
      refine E_callSR dX11_sortRows_28 lkX11_143 (m_common (x := c) (z := y) (by omega) (by omega)) ?_
      refine E_lstore dX11_sortRows_31 ?_
      refine E_aload_n dX11_sortRows_33 rfl ?_
      refine GX11_32 sk_203 dX11_sortRows_34 ?_
      refine E_iload_n dX11_sortRows_37 rfl ?_
      refine E_aload_n dX11_sortRows_38 rfl ?_
      refine GX11_32 sk_203 dX11_sortRows_39 ?_
      refine E_iload_n dX11_sortRows_42 rfl ?_
      refine H_lald sk_211 dX11_sortRows_43 ?_
      rw [e1]
      refine E_lload dX11_sortRows_44 rfl ?_
      refine E_ldiv dX11_sortRows_46 ?_
      refine E_aload_n dX11_sortRows_47 rfl ?_
      refine GX11_32 sk_203 dX11_sortRows_48 ?_
      refine E_iload_n dX11_sortRows_51 rfl ?_
      refine H_lald sk_211 dX11_sortRows_52 ?_
      rw [e2]
      refine E_lmul dX11_sortRows_53 ?_
      rw [ed]
      refine H_last sk_211 dX11_sortRows_54 ?_
      refine E_aload_n dX11_sortRows_55 rfl ?_
      refine GX11_32 sk_203 dX11_sortRows_56 ?_
      refine E_iload_n dX11_sortRows_59 rfl ?_
      refine E_lload dX11_sortRows_60 rfl ?_
      refine H_last sk_211 dX11_sortRows_62 ?_
      refine E_iinc dX11_sortRows_63 rfl ?_
      refine E_goto 11 dX11_sortRows_66 ?_
      have := ih (d ++ [y * (c / (Int.gcd c y : Int))]) (Int.gcd c y) (vl (Int.gcd c y : Int)) _ (by rw [← h1]; simp) (by simpa using h6) (by simpa using h5) (h4.row.row) (fun w w' μ2 q1 q2 q3 => hk w w' μ2 (by simpa [sweep] using q1) (by simpa [sweep] using q2) q3)
      simp only [List.length_append, List.length_cons, List.length_nil] at this
      rw [show (p.length : Int) + 1 + ((d.length + (0 + 1) : Nat) : Int) = (p.length : Int) + 1 + d.length + 1 by omega] at this
      exact this
theorem sr_outer {N : Nat} (hN : N ≤ 8) : ∀ (n : Nat) (l p : List Int) (w w' : Value) (μ' : Mem), l.length = n → (p ++ l).length = N → RepV μ' 211 (p ++ l) → okL (p ++ l) → OffR μ μ' →
    E G mX11_sortRows (Zq G mX11_sortRows (V0 (fun μ' => RepV μ' 211 (p ++ chainN n l) ∧ okL (p ++ chainN n l) ∧ OffR μ μ'))) 0 0 2 [.ref 203, vi (N : Int), vi (p.length : Int), w', w, .retAddr 0] [] (Hp μ') := by
  intro n
  induction n with
  | zero =>
    intro l p w w' μ' h0 h1 h2 h3 hO
    obtain rfl : l = [] := List.length_eq_zero_iff.mp h0
    simp at h1
    refine E_iload_n dX11_sortRows_2 rfl ?_
    refine E_iload_n dX11_sortRows_3 rfl ?_
    refine E_icmp_ge 75 dX11_sortRows_4 (fun h4 => ?_) (fun h4 => ?_)
    · -- 75
      refine E_vret dX11_sortRows_75 ?_
      exact ⟨rfl, _, rfl, h2, h3, hO⟩
    · -- 7
      exfalso; omega
  | succ n ih =>
    intro l p w w' μ' h0 h1 h2 h3 hO
    match l, h0, h1, h2, h3 with
    | c :: t, h0, h1, h2, h3 =>
    have h1' := h1
    simp at h1'
    refine E_iload_n dX11_sortRows_2 rfl ?_
    refine E_iload_n dX11_sortRows_3 rfl ?_
    refine E_icmp_ge 75 dX11_sortRows_4 (fun h4 => ?_) (fun h4 => ?_)
    · -- 75
      exfalso; omega
    · -- 7
      refine E_iload_n dX11_sortRows_7 rfl ?_
      refine E_iconst dX11_sortRows_8 ?_
      refine E_iadd dX11_sortRows_9 ?_
      refine E_istore_n dX11_sortRows_10 ?_
      have := sr_inner (G := G) (μ := μ) (Q := V0 (fun μ' => RepV μ' 211 (p ++ chainN (n + 1) (c :: t)) ∧ okL (p ++ chainN (n + 1) (c :: t)) ∧ OffR μ μ')) hN p t [] c w μ' (by simpa using h1) (by simpa using h2) (by simpa using h3) hO ?_
      · simp only [List.length_nil] at this
        rw [show (p.length : Int) + 1 + ((0 : Nat) : Int) = (p.length : Int) + 1 by omega] at this
        exact this
      intro w w' μ2 q1 q2 q3
      have h7 := ih (sweep c t).2 (p ++ [(sweep c t).1]) w w' μ2 (by rw [sweep_len]; simpa using h0) (by rw [← h1]; simp [sweep_len]) (by simpa using q1) (by simpa using q2) q3
      rw [show ((p ++ [(sweep c t).1]).length : Int) = (p.length : Int) + 1 by simp] at h7
      simp only [chainN]
      simp only [List.append_assoc, List.cons_append, List.nil_append] at h7
      refine E_iinc dX11_sortRows_69 rfl ?_
      refine E_goto 2 dX11_sortRows_72 ?_
      exact h7
theorem m_sortRows {l : List Int} (hl : l.length ≤ 8) (hv : RepV μ 211 l) (hok : okL l) : Ctr G mX11_sortRows [.ref 203, vi (l.length : Int)] (Hp μ) (V0 (fun μ' => RepV μ' 211 (chain l) ∧ okL (chain l) ∧ OffR μ μ')) := by
  refine Ctr.of ?_
  refine E_iconst dX11_sortRows_0 ?_
  refine E_istore_n dX11_sortRows_1 ?_
  exact sr_outer (μ := μ) hl l.length l [] _ _ μ rfl rfl hv hok OffR.rf
/-- the same, at the end of eight rows -/
theorem fr_inner {i : Int} {n : Nat} {Q : QT} (p : List Int) : ∀ (t d : List Int) (c : Int) (w w7 w8 : Value) (μ' : Mem), (p ++ c :: (d ++ t)).length = 8 → RepV μ' 211 (p ++ c :: (d ++ t)) → okL (p ++ c :: (d ++ t)) → OffR μ μ' →
    (∀ (w w' : Value) (μ2 : Mem), RepV μ2 211 (p ++ (sweep c t).1 :: (d ++ (sweep c t).2)) → okL (p ++ (sweep c t).1 :: (d ++ (sweep c t).2)) → OffR μ μ2 → E G mX11_findRows (Zq G mX11_findRows Q) 0 0 368 [.ref 203, vi i, vi (n : Int), vi (p.length : Int), w', w, .retAddr 0, w7, w8] [] (Hp μ2)) →
    E G mX11_findRows (Zq G mX11_findRows Q) 0 0 305 [.ref 203, vi i, vi (n : Int), vi (p.length : Int), vi ((p.length : Int) + 1 + d.length), w, .retAddr 0, w7, w8] [] (Hp μ') := by
  intro t
  induction t with
  | nil =>
    intro d c w w7 w8 μ' h1 h2 h3 h4 hk
    simp at h1
    refine E_iload dX11_findRows_305 rfl ?_
    refine E_bipush dX11_findRows_307 ?_
    refine E_icmp_ge 368 dX11_findRows_309 (fun h309 => ?_) (fun h309 => ?_)
    · -- 368
      exact hk _ _ μ' h2 h3 h4
    · -- 312
      exfalso; omega
  | cons y t ih =>
    intro d c w w7 w8 μ' h1 h2 h3 h4 hk
    have h1' := h1
    simp at h1'
    have hc := h3.le (x := c) (by simp)
    have hy := h3.le (x := y) (by simp)
    have e1 : μ' 211 p.length = c := h2.mid
    have e2 : μ' 211 ((p.length : Int) + 1 + d.length) = y := by
      have := RepV.mid (p := p ++ c :: d) (x := y) (t := t) (by simpa using h2)
      simp at this
      rw [show (p.length : Int) + 1 + d.length = (p.length : Int) + ((d.length : Int) + 1) by omega]
      exact this
    obtain ⟨g1, g2, g3, g4⟩ := gp hc.1 hy.1
    have h5 := okL_step h3
    have ed : c.tdiv (Int.gcd c y : Int) * y = y * (c / (Int.gcd c y : Int)) := by rw [Int.tdiv_eq_ediv_of_nonneg (by omega), Int.mul_comm]
    have h6 : RepV (up (up μ' 211 ((p.length : Int) + 1 + d.length) (y * (c / (Int.gcd c y : Int)))) 211 p.length (Int.gcd c y)) 211 (p ++ (Int.gcd c y : Int) :: (d ++ y * (c / (Int.gcd c y : Int)) :: t)) := by
      refine RepV.set (x := c) _ ?_
      have := RepV.set (p := p ++ c :: d) (x := y) (t := t) (y * (c / (Int.gcd c y : Int))) (by simpa using h2)
      simp at this
      rw [show (p.length : Int) + 1 + d.length = (p.length : Int) + ((d.length : Int) + 1) by omega]
      exact this
    refine E_iload dX11_findRows_305 rfl ?_
    refine E_bipush dX11_findRows_307 ?_
    refine E_icmp_ge 368 dX11_findRows_309 (fun h309 => ?_) (fun h309 => ?_)
    · -- 368
      exfalso; omega
    · -- 312
      refine E_aload_n dX11_findRows_312 rfl ?_
      refine GX11_32 sk_203 dX11_findRows_313 ?_
      refine E_iload_n dX11_findRows_316 rfl ?_
      refine H_lald sk_211 dX11_findRows_317 ?_
      rw [e1]
      refine E_aload_n dX11_findRows_318 rfl ?_
      refine GX11_32 sk_203 dX11_findRows_319 ?_
      refine E_iload dX11_findRows_322 rfl ?_
      refine H_lald sk_211 dX11_findRows_324 ?_
      rw [e2]
      refine E_callSR dX11_findRows_325 lkX11_143 (m_common (x := c) (z := y) (by omega) (by omega)) ?_
      refine E_lstore dX11_findRows_328 ?_
      refine E_aload_n dX11_findRows_330 rfl ?_
      refine GX11_32 sk_203 dX11_findRows_331 ?_
      refine E_iload dX11_findRows_334 rfl ?_
      refine E_aload_n dX11_findRows_336 rfl ?_
      refine GX11_32 sk_203 dX11_findRows_337 ?_
      refine E_iload_n dX11_findRows_340 rfl ?_
      refine H_lald sk_211 dX11_findRows_341 ?_
      rw [e1]
      refine E_lload dX11_findRows_342 rfl ?_
      refine E_ldiv dX11_findRows_344 ?_
      refine E_aload_n dX11_findRows_345 rfl ?_
      refine GX11_32 sk_203 dX11_findRows_346 ?_
      refine E_iload dX11_findRows_349 rfl ?_
      refine H_lald sk_211 dX11_findRows_351 ?_
      rw [e2]
      refine E_lmul dX11_findRows_352 ?_
      rw [ed]
      refine H_last sk_211 dX11_findRows_353 ?_
      refine E_aload_n dX11_findRows_354 rfl ?_
      refine GX11_32 sk_203 dX11_findRows_355 ?_
      refine E_iload_n dX11_findRows_358 rfl ?_
      refine E_lload dX11_findRows_359 rfl ?_
      refine H_last sk_211 dX11_findRows_361 ?_
      refine E_iinc dX11_findRows_362 rfl ?_
      refine E_goto 305 dX11_findRows_365 ?_
      have := ih (d ++ [y * (c / (Int.gcd c y : Int))]) (Int.gcd c y) (vl (Int.gcd c y : Int)) w7 w8 _ (by rw [← h1]; simp) (by simpa using h6) (by simpa using h5) (h4.row.row) (fun w w' μ2 q1 q2 q3 => hk w w' μ2 (by simpa [sweep] using q1) (by simpa [sweep] using q2) q3)
      simp only [List.length_append, List.length_cons, List.length_nil] at this
      rw [show (p.length : Int) + 1 + ((d.length + (0 + 1) : Nat) : Int) = (p.length : Int) + 1 + d.length + 1 by omega] at this
      exact this
theorem fr_outer {i : Int} {m : Nat} {w7 w8 : Value} {Q : QT} : ∀ (n : Nat) (l p : List Int) (w w' : Value) (μ' : Mem), l.length = n → (p ++ l).length = 8 → RepV μ' 211 (p ++ l) → okL (p ++ l) → OffR μ μ' →
    (∀ (μ2 : Mem) (w3 w4 w5 : Value), RepV μ2 211 (p ++ chainN n l) → okL (p ++ chainN n l) → OffR μ μ2 → E G mX11_findRows (Zq G mX11_findRows Q) 0 0 374 [.ref 203, vi i, vi (m : Int), w3, w4, w5, .retAddr 0, w7, w8] [] (Hp μ2)) →
    E G mX11_findRows (Zq G mX11_findRows Q) 0 0 294 [.ref 203, vi i, vi (m : Int), vi (p.length : Int), w', w, .retAddr 0, w7, w8] [] (Hp μ') := by
  intro n
  induction n with
  | zero =>
    intro l p w w' μ' h0 h1 h2 h3 h4 hk
    obtain rfl : l = [] := List.length_eq_zero_iff.mp h0
    simp at h1
    refine E_iload_n dX11_findRows_294 rfl ?_
    refine E_bipush dX11_findRows_295 ?_
    refine E_icmp_ge 374 dX11_findRows_297 (fun h297 => ?_) (fun h297 => ?_)
    · -- 374
      exact hk μ' _ _ _ h2 h3 h4
    · -- 300
      exfalso; omega
  | succ n ih =>
    intro l p w w' μ' h0 h1 h2 h3 h4 hk
    match l, h0, h1, h2, h3, hk with
    | c :: t, h0, h1, h2, h3, hk =>
    have h1' := h1
    simp at h1'
    refine E_iload_n dX11_findRows_294 rfl ?_
    refine E_bipush dX11_findRows_295 ?_
    refine E_icmp_ge 374 dX11_findRows_297 (fun h297 => ?_) (fun h297 => ?_)
    · -- 374
      exfalso; omega
    · -- 300
      refine E_iload_n dX11_findRows_300 rfl ?_
      refine E_iconst dX11_findRows_301 ?_
      refine E_iadd dX11_findRows_302 ?_
      refine E_istore dX11_findRows_303 ?_
      have := fr_inner (G := G) (μ := μ) (i := i) (n := m) (Q := Q) p t [] c w w7 w8 μ' (by simpa using h1) (by simpa using h2) (by simpa using h3) h4 ?_
      · simp only [List.length_nil] at this
        rw [show (p.length : Int) + 1 + ((0 : Nat) : Int) = (p.length : Int) + 1 by omega] at this
        exact this
      intro w w' μ2 q1 q2 q3
      have h7 := ih (sweep c t).2 (p ++ [(sweep c t).1]) w w' μ2 (by rw [sweep_len]; simpa using h0) (by rw [← h1]; simp [sweep_len]) (by simpa using q1) (by simpa using q2) q3 (fun μ3 w3 w4 w5 z1 z2 z3 => hk μ3 w3 w4 w5 (by simpa [chainN] using z1) (by simpa [chainN] using z2) z3)
      rw [show ((p ++ [(sweep c t).1]).length : Int) = (p.length : Int) + 1 by simp] at h7
      refine E_iinc dX11_findRows_368 rfl ?_
      refine E_goto 294 dX11_findRows_371 ?_
      exact h7
end MROWS
