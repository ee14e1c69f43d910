/-! chains of divisors, the first homology as the class has it -/
def prI : List Int → Int
  | [] => 1
  | x :: t => x * prI t
theorem prI_app (p q : List Int) : prI (p ++ q) = prI p * prI q := by
  induction p with
  | nil => simp [prI]
  | cons x t ih => simp [prI, ih, Int.mul_assoc]
def RepV (μ : Mem) (A : Nat) (l : List Int) : Prop := ∀ (k : Nat) (x : Int), l[k]? = some x → μ A k = x
theorem RepV.kept {μ μ' : Mem} {A : Nat} {l : List Int} (h : RepV μ A l) (hA : μ' A = μ A) : RepV μ' A l := fun k x hx => by rw [hA]; exact h k x hx
theorem RepV.mid {μ : Mem} {A : Nat} {p t : List Int} {x : Int} (h : RepV μ A (p ++ x :: t)) : μ A p.length = x := h p.length x (by simp)
theorem RepV.set {μ : Mem} {A : Nat} {p t : List Int} {x : Int} (y : Int) (h : RepV μ A (p ++ x :: t)) : RepV (up μ A p.length y) A (p ++ y :: t) := by
  intro k z hz
  rw [up_r]
  by_cases hk : k = p.length
  · subst hk
    simp at hz
    rw [if_pos rfl]; exact hz
  · rw [if_neg (by omega)]
    refine h k z ?_
    by_cases hl : k < p.length
    · rw [List.getElem?_append_left hl] at hz ⊢; exact hz
    · rw [List.getElem?_append_right (by omega)] at hz ⊢
      obtain ⟨j, hj⟩ : ∃ j, k - p.length = j + 1 := ⟨k - p.length - 1, by omega⟩
      rw [hj] at hz ⊢
      simpa using hz
theorem RepV.push {μ : Mem} {A : Nat} {p : List Int} (y : Int) (h : RepV μ A p) : RepV (up μ A p.length y) A (p ++ [y]) := by
  intro k z hz
  rw [up_r]
  by_cases hk : k = p.length
  · subst hk
    simp at hz
    rw [if_pos rfl]; exact hz
  · have hl : k < p.length := by have := (List.getElem?_eq_some_iff.mp hz).1; simp at this; omega
    rw [if_neg (by omega)]
    rw [List.getElem?_append_left hl] at hz
    exact h k z hz
theorem RepV.nil {μ : Mem} {A : Nat} : RepV μ A [] := fun k x hx => by simp at hx
theorem RepV.take {μ : Mem} {A n : Nat} {l : List Int} (h : RepV μ A l) : RepV μ A (l.take n) := fun k x hx => h k x (by rw [List.getElem?_take] at hx; split at hx; exact hx; simp at hx)
def sweep : Int → List Int → Int × List Int
  | c, [] => (c, [])
  | c, y :: t => ((sweep (Int.gcd c y) t).1, y * (c / (Int.gcd c y : Int)) :: (sweep (Int.gcd c y) t).2)
theorem sweep_len : ∀ (t : List Int) (c : Int), (sweep c t).2.length = t.length
  | [], _ => rfl
  | y :: t, c => by simp [sweep, sweep_len t]
def chainN : Nat → List Int → List Int
  | 0, _ => []
  | _ + 1, [] => []
  | n + 1, c :: t => (sweep c t).1 :: chainN n (sweep c t).2
theorem chainN_len : ∀ (n : Nat) (l : List Int), l.length = n → (chainN n l).length = n
  | 0, _, _ => rfl
  | n + 1, [], h => by simp at h
  | n + 1, c :: t, h => by
    simp only [chainN, List.length_cons]
    rw [chainN_len n _ (by rw [sweep_len]; simpa using h)]
def chain (l : List Int) : List Int := chainN l.length l
theorem chain_len (l : List Int) : (chain l).length = l.length := chainN_len _ _ rfl
def okL (l : List Int) : Prop := (∀ x ∈ l, 1 ≤ x) ∧ prI l ≤ 729000000
theorem prI_pos : ∀ {l : List Int}, (∀ x ∈ l, 1 ≤ x) → 1 ≤ prI l
  | [], _ => by simp [prI]
  | x :: t, h => by
    have h1 := prI_pos (l := t) (fun z hz => h z (List.mem_cons_of_mem _ hz))
    have h2 := h x List.mem_cons_self
    have := Int.mul_le_mul_of_nonneg_left h1 (show 0 ≤ x by omega)
    simp only [prI]
    omega
theorem mem_le : ∀ {l : List Int} {x : Int}, (∀ x ∈ l, 1 ≤ x) → x ∈ l → x ≤ prI l
  | [], _, _, h => by simp at h
  | y :: t, x, h, hx => by
    have h1 := prI_pos (l := t) (fun z hz => h z (List.mem_cons_of_mem _ hz))
    have h2 := h y List.mem_cons_self
    simp only [prI]
    rcases List.mem_cons.mp hx with rfl | hx
    · have := Int.mul_le_mul_of_nonneg_left h1 (show 0 ≤ x by omega)
      omega
    · have h3 := mem_le (l := t) (fun z hz => h z (List.mem_cons_of_mem _ hz)) hx
      have := Int.mul_le_mul_of_nonneg_right h2 (show 0 ≤ prI t by omega)
      omega
theorem okL.le {l : List Int} {x : Int} (h : okL l) (hx : x ∈ l) : 1 ≤ x ∧ x ≤ 729000000 := ⟨h.1 x hx, Int.le_trans (mem_le h.1 hx) h.2⟩
theorem gp {c y : Int} (hc : 1 ≤ c) (hy : 1 ≤ y) : 1 ≤ (Int.gcd c y : Int) ∧ (Int.gcd c y : Int) ≤ c ∧ 1 ≤ c / (Int.gcd c y : Int) ∧ (Int.gcd c y : Int) * (c / (Int.gcd c y : Int)) = c := by
  have h1 : 0 < Int.gcd c y := Int.gcd_pos_of_ne_zero_left y (by omega)
  have h2 := Int.gcd_le_left y (show 0 < c by omega)
  have h3 : (Int.gcd c y : Int) * (c / (Int.gcd c y : Int)) = c := Int.mul_ediv_cancel' (Int.gcd_dvd_left c y)
  refine ⟨by omega, h2, ?_, h3⟩
  have := Int.ediv_nonneg (show 0 ≤ c by omega) (show (0 : Int) ≤ (Int.gcd c y : Int) by omega)
  rcases (show c / (Int.gcd c y : Int) = 0 ∨ 1 ≤ c / (Int.gcd c y : Int) by omega) with h | h
  · rw [h] at h3; omega
  · exact h
theorem okL_step {p d t : List Int} {c y : Int} (h : okL (p ++ c :: (d ++ y :: t))) : okL (p ++ (Int.gcd c y : Int) :: (d ++ y * (c / (Int.gcd c y : Int)) :: t)) := by
  have hc := h.1 c (by simp)
  have hy := h.1 y (by simp)
  obtain ⟨g1, g2, g3, g4⟩ := gp hc hy
  refine ⟨fun x hx => ?_, ?_⟩
  · simp only [List.mem_append, List.mem_cons] at hx
    rcases hx with hx | rfl | hx | rfl | hx
    · exact h.1 x (by simp [hx])
    · exact g1
    · exact h.1 x (by simp [hx])
    · have := Int.mul_le_mul_of_nonneg_left g3 (show 0 ≤ y by omega)
      omega
    · exact h.1 x (by simp [hx])
  · have h2 := h.2
    have e : prI (p ++ (Int.gcd c y : Int) :: (d ++ y * (c / (Int.gcd c y : Int)) :: t)) = prI (p ++ c :: (d ++ y :: t)) := by
      simp only [prI_app, prI]
      have e2 : (Int.gcd c y : Int) * (prI d * (y * (c / (Int.gcd c y : Int)) * prI t)) = ((Int.gcd c y : Int) * (c / (Int.gcd c y : Int))) * (prI d * (y * prI t)) := by
        generalize (Int.gcd c y : Int) = g
        generalize c / g = e
        simp only [Int.mul_assoc, Int.mul_comm, Int.mul_left_comm]
      rw [e2, g4]
    rw [e]; exact h2
section HOMOLOGY
variable {G : GT} {μ : Mem} {f : Nat}
theorem ch_inner {s : Sp} (hf : isSp f) (hfd : f + 3 ≤ 153 ∨ 156 ≤ f) (hs : RepS μ f s) (hok : spOk s) {Q : QT} (p : List Int) : ∀ (t d : List Int) (c : Int) (w : Value) (μ' : Mem), (p ++ c :: (d ++ t)).length = s.2.2.2.length → RepV μ' 154 (p ++ c :: (d ++ t)) → okL (p ++ c :: (d ++ t)) → Off 154 1 μ μ' →
    (∀ (w w' : Value) (μ2 : Mem), RepV μ2 154 (p ++ (sweep c t).1 :: (d ++ (sweep c t).2)) → okL (p ++ (sweep c t).1 :: (d ++ (sweep c t).2)) → Off 154 1 μ μ2 → E G mX2_makeChain (Zq G mX2_makeChain Q) 0 0 102 [.ref 153, .ref f, vi (p.length : Int), w', w, .retAddr 0] [] (Hp μ2)) →
    E G mX2_makeChain (Zq G mX2_makeChain Q) 0 0 43 [.ref 153, .ref f, vi (p.length : Int), vi ((p.length : Int) + 1 + d.length), w, .retAddr 0] [] (Hp μ') := by
  have hb := hok.2.2.2.2.2.1
  intro t
  induction t with
  | nil =>
    intro d c w μ' h1 h2 h3 h4 hk
    have hs' := hs.off h4 (by omega)
    have hl := hs'.2.2.2.1
    rw [← h1] at hl
    simp at hl
    rw [← h1] at hb
    simp at hb
    refine E_iload_n dX2_makeChain_43 rfl ?_
    refine E_aload_n dX2_makeChain_44 rfl ?_
    refine GX2_26 hf.1 dX2_makeChain_45 ?_
    refine E_icmp_ge 102 dX2_makeChain_48 (fun h48 => ?_) (fun h48 => ?_)
    · -- 102
      exact hk _ _ μ' h2 h3 h4
    · -- 51
      exfalso; omega
  | cons y t ih =>
    intro d c w μ' h1 h2 h3 h4 hk
    have hs' := hs.off h4 (by omega)
    have hl := hs'.2.2.2.1
    rw [← h1] at hl
    simp at hl
    rw [← h1] at hb
    simp at hb
    have hc := h3.le (x := c) (by simp)
    have hy := h3.le (x := y) (by simp)
    have e1 : μ' 154 p.length = c := h2.mid
    have e2 : μ' 154 ((p.length : Int) + 1 + d.length) = y := by
      have := RepV.mid (p := p ++ c :: d) (x := y) (t := t) (by simpa using h2)
      simp at this
      rw [show (p.length : Int) + 1 + d.length = (p.length : Int) + ((d.length : Int) + 1) by omega]
      exact this
    obtain ⟨g1, g2, g3, g4⟩ := gp hc.1 hy.1
    have h5 := okL_step h3
    have h6 : RepV (up (up μ' 154 ((p.length : Int) + 1 + d.length) (y * (c / (Int.gcd c y : Int)))) 154 p.length (Int.gcd c y)) 154 (p ++ (Int.gcd c y : Int) :: (d ++ y * (c / (Int.gcd c y : Int)) :: t)) := by
      refine RepV.set (x := c) _ ?_
      have := RepV.set (p := p ++ c :: d) (x := y) (t := t) (y * (c / (Int.gcd c y : Int))) (by simpa using h2)
      simp at this
      rw [show (p.length : Int) + 1 + d.length = (p.length : Int) + ((d.length : Int) + 1) by omega]
      exact this
    refine E_iload_n dX2_makeChain_43 rfl ?_
    refine E_aload_n dX2_makeChain_44 rfl ?_
    refine GX2_26 hf.1 dX2_makeChain_45 ?_
    refine E_icmp_ge 102 dX2_makeChain_48 (fun h48 => ?_) (fun h48 => ?_)
    · -- 102
      exfalso; omega
    · -- 51
      refine E_aload_n dX2_makeChain_51 rfl ?_
      refine GX2_9 sk_153 dX2_makeChain_52 ?_
      refine E_iload_n dX2_makeChain_55 rfl ?_
      refine H_lald sk_154 dX2_makeChain_56 ?_
      rw [e1]
      refine E_aload_n dX2_makeChain_57 rfl ?_
      refine GX2_9 sk_153 dX2_makeChain_58 ?_
      refine E_iload_n dX2_makeChain_61 rfl ?_
      refine H_lald sk_154 dX2_makeChain_62 ?_
      rw [e2]
      refine E_callSR dX2_makeChain_63 lkX2_66 (c_gcd (x := c) (z := y) (by omega) (by omega)) ?_
      refine E_lstore dX2_makeChain_66 ?_
      refine E_aload_n dX2_makeChain_68 rfl ?_
      refine GX2_9 sk_153 dX2_makeChain_69 ?_
      refine E_iload_n dX2_makeChain_72 rfl ?_
      refine E_dup2 dX2_makeChain_73 ?_
      refine H_lald sk_154 dX2_makeChain_74 ?_
      rw [e2]
      refine E_aload_n dX2_makeChain_75 rfl ?_
      refine GX2_9 sk_153 dX2_makeChain_76 ?_
      refine E_iload_n dX2_makeChain_79 rfl ?_
      refine H_lald sk_154 dX2_makeChain_80 ?_
      rw [e1]
      refine E_lload dX2_makeChain_81 rfl ?_
      refine E_callSR dX2_makeChain_83 lkX2_58 (c_quotient (x := c) (z := (Int.gcd c y : Int)) (by omega) (by omega)) ?_
      refine E_lmul dX2_makeChain_86 ?_
      refine H_last sk_154 dX2_makeChain_87 ?_
      refine E_aload_n dX2_makeChain_88 rfl ?_
      refine GX2_9 sk_153 dX2_makeChain_89 ?_
      refine E_iload_n dX2_makeChain_92 rfl ?_
      refine E_lload dX2_makeChain_93 rfl ?_
      refine H_last sk_154 dX2_makeChain_95 ?_
      refine E_iinc dX2_makeChain_96 rfl ?_
      refine E_goto 43 dX2_makeChain_99 ?_
      have := ih (d ++ [y * (c / (Int.gcd c y : Int))]) (Int.gcd c y) (vl (Int.gcd c y : Int)) _ (by rw [← h1]; simp) (by simpa using h6) (by simpa using h5) ((h4.up (by omega) (by omega)).up (by omega) (by omega)) (fun w w' μ2 q1 q2 q3 => hk w w' μ2 (by simpa [sweep] using q1) (by simpa [sweep] using q2) q3)
      simp only [List.length_append, List.length_cons, List.length_nil] at this
      rw [show (p.length : Int) + 1 + ((d.length + (0 + 1) : Nat) : Int) = (p.length : Int) + 1 + d.length + 1 by omega] at this
      exact this
theorem ch_outer {s : Sp} (hf : isSp f) (hfd : f + 3 ≤ 153 ∨ 156 ≤ f) (hs : RepS μ f s) (hok : spOk s) : ∀ (n : Nat) (l p : List Int) (w w' : Value) (μ' : Mem), l.length = n → (p ++ l).length = s.2.2.2.length → RepV μ' 154 (p ++ l) → okL (p ++ l) → Off 154 1 μ μ' →
    E G mX2_makeChain (Zq G mX2_makeChain (V0 (fun μ' => RepV μ' 154 (p ++ chainN n l) ∧ okL (p ++ chainN n l) ∧ Off 154 1 μ μ'))) 0 0 31 [.ref 153, .ref f, vi (p.length : Int), w', w, .retAddr 0] [] (Hp μ') := by
  have hb := hok.2.2.2.2.2.1
  intro n
  induction n with
  | zero =>
    intro l p w w' μ' h0 h1 h2 h3 h4
    obtain rfl : l = [] := List.length_eq_zero_iff.mp h0
    have hs' := hs.off h4 (by omega)
    have hl := hs'.2.2.2.1
    rw [← h1] at hl hb
    simp at hl hb
    refine E_iload_n dX2_makeChain_31 rfl ?_
    refine E_aload_n dX2_makeChain_32 rfl ?_
    refine GX2_26 hf.1 dX2_makeChain_33 ?_
    refine E_icmp_ge 108 dX2_makeChain_36 (fun h36 => ?_) (fun h36 => ?_)
    · -- 108
      refine E_vret dX2_makeChain_108 ?_
      exact ⟨rfl, _, rfl, h2, h3, h4⟩
    · -- 39
      exfalso; omega
  | succ n ih =>
    intro l p w w' μ' h0 h1 h2 h3 h4
    match l, h0, h1, h2, h3 with
    | c :: t, h0, h1, h2, h3 =>
    have hs' := hs.off h4 (by omega)
    have hl := hs'.2.2.2.1
    rw [← h1] at hl hb
    simp at hl hb
    refine E_iload_n dX2_makeChain_31 rfl ?_
    refine E_aload_n dX2_makeChain_32 rfl ?_
    refine GX2_26 hf.1 dX2_makeChain_33 ?_
    refine E_icmp_ge 108 dX2_makeChain_36 (fun h36 => ?_) (fun h36 => ?_)
    · -- 108
      exfalso; omega
    · -- 39
      refine E_iload_n dX2_makeChain_39 rfl ?_
      refine E_iconst dX2_makeChain_40 ?_
      refine E_iadd dX2_makeChain_41 ?_
      refine E_istore_n dX2_makeChain_42 ?_
      have := ch_inner (G := G) (Q := V0 (fun μ' => RepV μ' 154 (p ++ chainN (n + 1) (c :: t)) ∧ okL (p ++ chainN (n + 1) (c :: t)) ∧ Off 154 1 μ μ')) hf hfd hs hok p t [] c w μ' (by simpa using h1) (by simpa using h2) (by simpa using h3) h4 ?_
      · simp only [List.length_nil] at this
        rw [show (p.length : Int) + 1 + ((0 : Nat) : Int) = (p.length : Int) + 1 by omega] at this
        exact this
      intro w w' μ2 q1 q2 q3
      have h7 := ih (sweep c t).2 (p ++ [(sweep c t).1]) w w' μ2 (by rw [sweep_len]; simpa using h0) (by rw [← h1]; simp [sweep_len]) (by simpa using q1) (by simpa using q2) q3
      rw [show ((p ++ [(sweep c t).1]).length : Int) = (p.length : Int) + 1 by simp] at h7
      simp only [chainN]
      simp only [List.append_assoc, List.cons_append, List.nil_append] at h7
      refine E_iinc dX2_makeChain_102 rfl ?_
      refine E_goto 31 dX2_makeChain_105 ?_
      exact h7
theorem okL_of {s : Sp} (hok : spOk s) : okL (s.2.2.2.map Prod.fst) := by
  refine ⟨fun x hx => ?_, ?_⟩
  · obtain ⟨y, hy, rfl⟩ := List.mem_map.mp hx
    have := (hok.2.2.2.2.2.2 y hy).1
    omega
  · have h1 := (pA_6 hok).2
    have h2 : ∀ l : List Fib, prI (l.map Prod.fst) = pA l := by
      intro l
      induction l with
      | nil => rfl
      | cons x t ih => simp [prI, pA, ih]
    rw [h2]; exact h1
theorem ch_copy {s : Sp} (hf : isSp f) (hfd : f + 3 ≤ 153 ∨ 156 ≤ f) (hs : RepS μ f s) (hok : spOk s) : ∀ (q p : List Fib) (μ' : Mem), p ++ q = s.2.2.2 → RepV μ' 154 (p.map Prod.fst) → Off 154 1 μ μ' →
    E G mX2_makeChain (Zq G mX2_makeChain (V0 (fun μ' => RepV μ' 154 (chain (s.2.2.2.map Prod.fst)) ∧ okL (chain (s.2.2.2.map Prod.fst)) ∧ Off 154 1 μ μ'))) 0 0 2 [.ref 153, .ref f, vi (p.length : Int), .retAddr 0, .retAddr 0, .retAddr 0] [] (Hp μ') := by
  have hb := hok.2.2.2.2.2.1
  intro q
  induction q with
  | nil =>
    intro p μ' h1 h2 h4
    have hs' := hs.off h4 (by omega)
    have hl : (p.length : Int) = μ' f 3 := by rw [hs'.2.2.2.1, ← h1]; simp
    have hb2 : p.length ≤ 6 := by rw [← h1] at hb; simp at hb; omega
    simp only [List.append_nil] at h1
    subst h1
    refine E_iload_n dX2_makeChain_2 rfl ?_
    refine E_aload_n dX2_makeChain_3 rfl ?_
    refine GX2_26 hf.1 dX2_makeChain_4 ?_
    refine E_icmp_ge 29 dX2_makeChain_7 (fun h7 => ?_) (fun h7 => ?_)
    · -- 29
      refine E_iconst dX2_makeChain_29 ?_
      refine E_istore_n dX2_makeChain_30 ?_
      have := ch_outer (G := G) (μ := μ) hf hfd hs hok _ (s.2.2.2.map Prod.fst) [] (.retAddr 0) (.retAddr 0) μ' rfl (by simp) h2 (okL_of hok) h4
      exact this
    · -- 10
      exfalso; omega
  | cons x q ih =>
    intro p μ' h1 h2 h4
    have hs' := hs.off h4 (by omega)
    have hl : (p.length : Int) + 1 + q.length = μ' f 3 := by rw [hs'.2.2.2.1, ← h1]; simp; omega
    have hb2 : p.length + 1 + q.length ≤ 6 := by rw [← h1] at hb; simp at hb; omega
    have hx := hok.2.2.2.2.2.2 x (by rw [← h1]; simp)
    have hat := hs'.2.2.2.2.2 p.length x (by rw [← h1]; simp)
    obtain ⟨x1, x2, x3, x4, -⟩ := id hx
    have h5 := RepV.push x.1 h2
    rw [List.length_map] at h5
    refine E_iload_n dX2_makeChain_2 rfl ?_
    refine E_aload_n dX2_makeChain_3 rfl ?_
    refine GX2_26 hf.1 dX2_makeChain_4 ?_
    refine E_icmp_ge 29 dX2_makeChain_7 (fun h7 => ?_) (fun h7 => ?_)
    · -- 29
      exfalso; omega
    · -- 10
      refine E_aload_n dX2_makeChain_10 rfl ?_
      refine GX2_9 sk_153 dX2_makeChain_11 ?_
      refine E_iload_n dX2_makeChain_14 rfl ?_
      refine E_aload_n dX2_makeChain_15 rfl ?_
      refine GX2_71 hf.1 dX2_makeChain_16 ?_
      refine E_iload_n dX2_makeChain_19 rfl ?_
      refine H_iald hf.2.1 dX2_makeChain_20 ?_
      rw [hat.1]
      refine E_i2l dX2_makeChain_21 ?_
      refine H_last sk_154 dX2_makeChain_22 ?_
      refine E_iinc dX2_makeChain_23 rfl ?_
      refine E_goto 2 dX2_makeChain_26 ?_
      have := ih (p ++ [x]) _ (by rw [← h1]; simp) (by simpa using h5) (h4.up (by omega) (by omega))
      rw [show ((p ++ [x]).length : Int) = (p.length : Int) + 1 by simp] at this
      exact this
theorem c_makeChain {s : Sp} (hf : isSp f) (hfd : f + 3 ≤ 153 ∨ 156 ≤ f) (hs : RepS μ f s) (hok : spOk s) : Ctr G mX2_makeChain [.ref 153, .ref f] (Hp μ) (V0 (fun μ' => RepV μ' 154 (chain (s.2.2.2.map Prod.fst)) ∧ okL (chain (s.2.2.2.map Prod.fst)) ∧ Off 154 1 μ μ')) := by
  refine Ctr.of ?_
  refine E_iconst dX2_makeChain_0 ?_
  refine E_istore_n dX2_makeChain_1 ?_
  exact ch_copy (μ := μ) hf hfd hs hok s.2.2.2 [] μ rfl RepV.nil Off.rf
theorem prod_loop {l : List Int} (hl : RepV μ 154 l) (n : Int) (h0 : -1000 ≤ n) (hn : n ≤ l.length) (h6 : l.length ≤ 6) : ∀ (q p : List Int) (b : Int), p ++ q = l.take n.toNat →
    E G mX2_product (Zq G mX2_product (R1 (vl (b * prI q)) (Hp μ))) 0 0 5 [.ref 153, vi n, vl b, .retAddr 0, vi (p.length : Int)] [] (Hp μ) := by
  have hlen : (l.take n.toNat).length = n.toNat := by rw [List.length_take]; omega
  intro q
  induction q with
  | nil =>
    intro p b h1
    have h2 : p.length = n.toNat := by rw [← hlen, ← h1]; simp
    refine E_iload dX2_product_5 rfl ?_
    refine E_iload_n dX2_product_7 rfl ?_
    refine E_icmp_ge 34 dX2_product_8 (fun h8 => ?_) (fun h8 => ?_)
    · -- 34
      refine E_lload_n dX2_product_34 rfl ?_
      refine E_lret dX2_product_35 ?_
      exact ⟨by simp [prI], rfl⟩
    · -- 11
      exfalso; omega
  | cons x q ih =>
    intro p b h1
    have h2 : p.length + 1 + q.length = n.toNat := by rw [← hlen, ← h1]; simp; omega
    have e1 : μ 154 p.length = x := by
      have := (RepV.take (n := n.toNat) hl)
      rw [← h1] at this
      exact this.mid
    refine E_iload dX2_product_5 rfl ?_
    refine E_iload_n dX2_product_7 rfl ?_
    refine E_icmp_ge 34 dX2_product_8 (fun h8 => ?_) (fun h8 => ?_)
    · -- 34
      exfalso; omega
    · -- 11
      refine E_iload dX2_product_11 rfl ?_
      refine E_bipush dX2_product_13 ?_
      refine E_icmp_ge 34 dX2_product_15 (fun h15 => ?_) (fun h15 => ?_)
      · -- 34
        exfalso; omega
      · -- 18
        refine E_lload_n dX2_product_18 rfl ?_
        refine E_aload_n dX2_product_19 rfl ?_
        refine GX2_9 sk_153 dX2_product_20 ?_
        refine E_iload dX2_product_23 rfl ?_
        refine H_lald sk_154 dX2_product_25 ?_
        rw [e1]
        refine E_lmul dX2_product_26 ?_
        refine E_lstore_n dX2_product_27 ?_
        refine E_iinc dX2_product_28 rfl ?_
        refine E_goto 5 dX2_product_31 ?_
        have := ih (p ++ [x]) (b * x) (by rw [← h1]; simp)
        rw [show ((p ++ [x]).length : Int) = (p.length : Int) + 1 by simp, Int.mul_assoc] at this
        exact this
theorem c_product {l : List Int} (hl : RepV μ 154 l) {n : Int} (h0 : -1000 ≤ n) (hn : n ≤ l.length) (h6 : l.length ≤ 6) : Ctr G mX2_product [.ref 153, vi n] (Hp μ) (R1 (vl (prI (l.take n.toNat))) (Hp μ)) := by
  refine Ctr.of ?_
  refine E_lconst1 dX2_product_0 ?_
  refine E_lstore_n dX2_product_1 ?_
  refine E_iconst dX2_product_2 ?_
  refine E_istore dX2_product_3 ?_
  have := prod_loop (G := G) hl n h0 hn h6 (l.take n.toNat) [] 1 rfl
  rw [Int.one_mul] at this
  exact this
/-- the numbers of the torsion as they are noted -/
def HomT (μ : Mem) (T : List Int) : Prop := μ 153 2 = T.length ∧ T.length ≤ 8 ∧ RepV μ 155 T
def add1 (T : List Int) (x : Int) : List Int := if 1 < x then T ++ [x] else T
theorem add1_len (T : List Int) (x : Int) : (add1 T x).length ≤ T.length + 1 := by unfold add1; split <;> simp
theorem c_hadd {T : List Int} {x : Int} (hT : HomT μ T) (h7 : T.length < 8) (hx : -4000000000000000000 ≤ x ∧ x ≤ 4000000000000000000) : Ctr G mX2_add [.ref 153, vl x] (Hp μ) (V0 (fun μ' => HomT μ' (add1 T x) ∧ μ' 153 3 = μ 153 3 ∧ μ' 154 = μ 154 ∧ Off 153 3 μ μ')) := by
  refine Ctr.of ?_
  obtain ⟨k1, k2, k3⟩ := hT
  refine E_lload_n dX2_add_0 rfl ?_
  refine E_lconst1 dX2_add_1 ?_
  refine E_lcmp_le 38 dX2_add_2 dX2_add_3 (fun h2 => ?_) (fun h2 => ?_)
  · -- 38
    refine E_vret dX2_add_38 ?_
    first | (refine ⟨rfl, _, rfl, ?_, rfl, rfl, Off.rf⟩; unfold add1; rw [if_neg (by omega)]; exact ⟨k1, k2, k3⟩) | (exfalso; omega) | exact ⟨rfl, _, rfl, by unfold add1; rw [if_pos (by omega)]; exact ⟨by rw [up_r, if_pos rfl]; simp, by simp; omega, (k3.push x).kept (up_ne 155 (by decide))⟩, by rw [up_r, if_neg (by omega), up_ne 153 (by decide)], by rw [up_ne 154 (by decide), up_ne 154 (by decide)], (Off.rf.up (by omega) (by omega)).up (by omega) (by omega)⟩
  · -- 6
    refine E_aload_n dX2_add_6 rfl ?_
    refine GX2_22 sk_153 dX2_add_7 ?_
    refine E_aload_n dX2_add_10 rfl ?_
    refine GX2_15 sk_153 dX2_add_11 ?_
    refine H_alen1 sk_155 dX2_add_14 ?_
    refine E_icmp_ge 38 dX2_add_15 (fun h15 => ?_) (fun h15 => ?_)
    · -- 38
      refine E_vret dX2_add_38 ?_
      first | (refine ⟨rfl, _, rfl, ?_, rfl, rfl, Off.rf⟩; unfold add1; rw [if_neg (by omega)]; exact ⟨k1, k2, k3⟩) | (exfalso; omega) | exact ⟨rfl, _, rfl, by unfold add1; rw [if_pos (by omega)]; exact ⟨by rw [up_r, if_pos rfl]; simp, by simp; omega, (k3.push x).kept (up_ne 155 (by decide))⟩, by rw [up_r, if_neg (by omega), up_ne 153 (by decide)], by rw [up_ne 154 (by decide), up_ne 154 (by decide)], (Off.rf.up (by omega) (by omega)).up (by omega) (by omega)⟩
    · -- 18
      refine E_aload_n dX2_add_18 rfl ?_
      refine GX2_15 sk_153 dX2_add_19 ?_
      skip
      refine E_aload_n dX2_add_22 rfl ?_
      refine GX2_22 sk_153 dX2_add_23 ?_
      rw [k1]
      refine E_lload_n dX2_add_26 rfl ?_
      refine H_last sk_155 dX2_add_27 ?_
      refine E_aload_n dX2_add_28 rfl ?_
      refine E_dup dX2_add_29 ?_
      refine GX2_22 sk_153 dX2_add_30 ?_
      rw [up_ne 153 (by decide), k1]
      refine E_iconst dX2_add_33 ?_
      refine E_iadd dX2_add_34 ?_
      refine PX2_22 sk_153 dX2_add_35 ?_
      refine E_vret dX2_add_38 ?_
      first | (refine ⟨rfl, _, rfl, ?_, rfl, rfl, Off.rf⟩; unfold add1; rw [if_neg (by omega)]; exact ⟨k1, k2, k3⟩) | (exfalso; omega) | exact ⟨rfl, _, rfl, by unfold add1; rw [if_pos (by omega)]; exact ⟨by rw [up_r, if_pos rfl]; simp, by simp; omega, (k3.push x).kept (up_ne 155 (by decide))⟩, by rw [up_r, if_neg (by omega), up_ne 153 (by decide)], by rw [up_ne 154 (by decide), up_ne 154 (by decide)], (Off.rf.up (by omega) (by omega)).up (by omega) (by omega)⟩
def torC (s : Sp) : List Int :=
  let C := chain (s.2.2.2.map Prod.fst)
  let n := s.2.2.2.length
  let T := (C.take (n - 2)).foldl add1 []
  if s.1 = 0 then add1 T (((eT s).natAbs : Int) / prI (C.take (n - 2)))
  else add1 (add1 T ((Int.gcd (eT s).natAbs (2 * prI (C.take (n - 1))) : Int) / prI (C.take (n - 2)))) (4 * prI C / (Int.gcd (eT s).natAbs (2 * prI (C.take (n - 1))) : Int))
def rankC (s : Sp) : Int := if s.1 = 0 then 2 * s.2.1 + (if eT s = 0 then 1 else 0) else s.2.1 - 1
theorem fold_add_len : ∀ (l T : List Int), (l.foldl add1 T).length ≤ T.length + l.length
  | [], T => by simp
  | x :: t, T => by
    have h1 := fold_add_len t (add1 T x)
    have h2 := add1_len T x
    simp only [List.foldl_cons, List.length_cons]
    omega
theorem bT_rng {P : Int} (hP : 0 ≤ P) : ∀ {l : List Fib}, (∀ x ∈ l, fibOk x) → 0 ≤ bT P l ∧ bT P l ≤ P * l.length
  | [], _ => by simp [bT]
  | x :: t, h => by
    have h1 := bT_rng hP (l := t) (fun z hz => h z (List.mem_cons_of_mem _ hz))
    obtain ⟨q1, q2, q3, q4, -⟩ := h x List.mem_cons_self
    simp only [bT, List.length_cons]
    have t1 := Int.ediv_nonneg hP (show 0 ≤ x.1 by omega)
    have t2 := Int.mul_nonneg (show 0 ≤ x.2 by omega) t1
    have t3 := Int.mul_le_mul_of_nonneg_right (show x.2 ≤ x.1 by omega) t1
    have t4 := Int.mul_ediv_self_le (x := P) (k := x.1) (by omega)
    have t5 : P * ((t.length + 1 : Nat) : Int) = P * t.length + P := by rw [Int.natCast_add, Int.mul_add]; simp
    omega
theorem eT_rng {s : Sp} (hok : spOk s) : -800000000000 ≤ eT s ∧ eT s ≤ 800000000000 := by
  have h1 := pA_6 hok
  have h2 := bT_rng (P := pA s.2.2.2) (by omega) hok.2.2.2.2.2.2
  have h3 : pA s.2.2.2 * s.2.2.2.length ≤ pA s.2.2.2 * 6 := Int.mul_le_mul_of_nonneg_left (by have := hok.2.2.2.2.2.1; omega) (by omega)
  have h4 := Int.mul_le_mul_of_nonneg_right (show s.2.2.1 ≤ 999 from hok.2.2.2.2.1) (show 0 ≤ pA s.2.2.2 by omega)
  have h5 := Int.mul_le_mul_of_nonneg_right (show -999 ≤ s.2.2.1 from hok.2.2.2.1) (show 0 ≤ pA s.2.2.2 by omega)
  unfold eT
  omega
theorem prI_take {C : List Int} (h : okL C) (n : Nat) : 1 ≤ prI (C.take n) ∧ prI (C.take n) ≤ 729000000 := by
  have h1 : 1 ≤ prI (C.take n) := prI_pos (fun x hx => h.1 x (List.mem_of_mem_take hx))
  have h2 : 1 ≤ prI (C.drop n) := prI_pos (fun x hx => h.1 x (List.mem_of_mem_drop hx))
  have h3 : prI (C.take n) * prI (C.drop n) = prI C := by rw [← prI_app, List.take_append_drop]
  have h4 := h.2
  have := Int.mul_le_mul_of_nonneg_left h2 (show 0 ≤ prI (C.take n) by omega)
  omega
theorem study_loop {s : Sp} {C : List Int} (hf : isSp f) (hfd : f + 3 ≤ 153 ∨ 156 ≤ f) (hs : RepS μ f s) (hok : spOk s) (hC : okL C) (hlen : C.length = s.2.2.2.length) {Q : QT} : ∀ (q p T : List Int) (μ' : Mem), p ++ q = C.take (s.2.2.2.length - 2) → HomT μ' T → T.length ≤ p.length → RepV μ' 154 C → Off 153 3 μ μ' →
    (∀ (w : Value) (μ2 : Mem), HomT μ2 (q.foldl add1 T) → RepV μ2 154 C → Off 153 3 μ μ2 → E G mX2_study (Zq G mX2_study Q) 0 0 38 [.ref 153, .ref f, w, .retAddr 0, .retAddr 0, .retAddr 0, .retAddr 0, .retAddr 0] [] (Hp μ2)) →
    E G mX2_study (Zq G mX2_study Q) 0 0 12 [.ref 153, .ref f, vi (p.length : Int), .retAddr 0, .retAddr 0, .retAddr 0, .retAddr 0, .retAddr 0] [] (Hp μ') := by
  have hb := hok.2.2.2.2.2.1
  have hl2 : (C.take (s.2.2.2.length - 2)).length = s.2.2.2.length - 2 := by rw [List.length_take, hlen]; omega
  intro q
  induction q with
  | nil =>
    intro p T μ' h1 h2 h3 h4 h5 hk
    have hs' := hs.off h5 (by omega)
    have hl := hs'.2.2.2.1
    have hp : p.length = s.2.2.2.length - 2 := by rw [← hl2, ← h1]; simp
    refine E_iload_n dX2_study_12 rfl ?_
    refine E_aload_n dX2_study_13 rfl ?_
    refine GX2_26 hf.1 dX2_study_14 ?_
    refine E_iconst dX2_study_17 ?_
    refine E_isub dX2_study_18 ?_
    refine E_icmp_ge 38 dX2_study_19 (fun h19 => ?_) (fun h19 => ?_)
    · -- 38
      exact hk _ μ' h2 h4 h5
    · -- 22
      exfalso; omega
  | cons x q ih =>
    intro p T μ' h1 h2 h3 h4 h5 hk
    have hs' := hs.off h5 (by omega)
    have hl := hs'.2.2.2.1
    have hp : p.length + 1 + q.length = s.2.2.2.length - 2 := by rw [← hl2, ← h1]; simp; omega
    have e1 : μ' 154 p.length = x := by
      have := (RepV.take (n := s.2.2.2.length - 2) h4)
      rw [← h1] at this
      exact this.mid
    have hx := hC.le (x := x) (List.mem_of_mem_take (by rw [← h1]; simp))
    refine E_iload_n dX2_study_12 rfl ?_
    refine E_aload_n dX2_study_13 rfl ?_
    refine GX2_26 hf.1 dX2_study_14 ?_
    refine E_iconst dX2_study_17 ?_
    refine E_isub dX2_study_18 ?_
    refine E_icmp_ge 38 dX2_study_19 (fun h19 => ?_) (fun h19 => ?_)
    · -- 38
      exfalso; omega
    · -- 22
      refine E_aload_n dX2_study_22 rfl ?_
      refine E_aload_n dX2_study_23 rfl ?_
      refine GX2_9 sk_153 dX2_study_24 ?_
      refine E_iload_n dX2_study_27 rfl ?_
      refine H_lald sk_154 dX2_study_28 ?_
      rw [e1]
      refine E_callVV dX2_study_29 lkX2_31 (Hp_get sk_153) (c_hadd (x := x) h2 (by omega) (by omega)) ?_
      rintro μ2 ⟨g1, g2, g3, g4⟩
      refine E_iinc dX2_study_32 rfl ?_
      refine E_goto 12 dX2_study_35 ?_
      have := ih (p ++ [x]) (add1 T x) μ2 (by rw [← h1]; simp) g1 (by have := add1_len T x; simp; omega) (h4.kept g3) (h5.tr g4) hk
      rw [show ((p ++ [x]).length : Int) = (p.length : Int) + 1 by simp] at this
      exact this
theorem st_tail {s : Sp} {C : List Int} (hf : isSp f) (hfd : f + 3 ≤ 153 ∨ 156 ≤ f) (hs : RepS μ f s) (hok : spOk s) (hC : okL C) (hlen : C.length = s.2.2.2.length) (w : Value) (T : List Int) (hT : HomT μ T) (hTl : T.length ≤ 4) (hR : RepV μ 154 C) :
    E G mX2_study (Zq G mX2_study (V0 (fun μ' => HomT μ' (if s.1 = 0 then add1 T (((eT s).natAbs : Int) / prI (C.take (s.2.2.2.length - 2))) else add1 (add1 T ((Int.gcd (eT s).natAbs (2 * prI (C.take (s.2.2.2.length - 1))) : Int) / prI (C.take (s.2.2.2.length - 2)))) (4 * prI C / (Int.gcd (eT s).natAbs (2 * prI (C.take (s.2.2.2.length - 1))) : Int))) ∧ μ' 153 3 = rankC s ∧ Off 153 3 μ μ'))) 0 0 38 [.ref 153, .ref f, w, .retAddr 0, .retAddr 0, .retAddr 0, .retAddr 0, .retAddr 0] [] (Hp μ) := by
  have kb := hok.2.2.2.2.2.1
  have ksp := hok.1
  have kg1 := hok.2.1
  have kg2 := hok.2.2.1
  have ke := eT_rng hok
  have kk := hs.1
  have kl := hs.2.2.2.1
  have n2 : ((s.2.2.2.length : Int) - 2).toNat = s.2.2.2.length - 2 := by omega
  have n1 : ((s.2.2.2.length : Int) - 1).toNat = s.2.2.2.length - 1 := by omega
  have kp2 := prI_take hC (s.2.2.2.length - 2)
  have kp1 := prI_take hC (s.2.2.2.length - 1)
  have kp0 := prI_take hC s.2.2.2.length
  have c0 : C.take s.2.2.2.length = C := List.take_of_length_le (by omega)
  rw [c0] at kp0
  have kgc : 1 ≤ (Int.gcd (eT s).natAbs (2 * prI (C.take (s.2.2.2.length - 1))) : Int) ∧ (Int.gcd (eT s).natAbs (2 * prI (C.take (s.2.2.2.length - 1))) : Int) ≤ 2 * 729000000 := by
    have q1 := Int.gcd_pos_of_ne_zero_right ((eT s).natAbs : Int) (b := 2 * prI (C.take (s.2.2.2.length - 1))) (by omega)
    have q2 := Int.gcd_le_right ((eT s).natAbs : Int) (b := 2 * prI (C.take (s.2.2.2.length - 1))) (by omega)
    omega
  have kd2 : 0 ≤ ((eT s).natAbs : Int) / prI (C.take (s.2.2.2.length - 2)) ∧ ((eT s).natAbs : Int) / prI (C.take (s.2.2.2.length - 2)) ≤ 800000000000 := ⟨Int.ediv_nonneg (by omega) (by omega), Int.le_trans (Int.ediv_le_self _ (by omega)) (by omega)⟩
  have kd3 : 0 ≤ (Int.gcd (eT s).natAbs (2 * prI (C.take (s.2.2.2.length - 1))) : Int) / prI (C.take (s.2.2.2.length - 2)) ∧ (Int.gcd (eT s).natAbs (2 * prI (C.take (s.2.2.2.length - 1))) : Int) / prI (C.take (s.2.2.2.length - 2)) ≤ 800000000000 := ⟨Int.ediv_nonneg (by omega) (by omega), Int.le_trans (Int.ediv_le_self _ (by omega)) (by omega)⟩
  have kd4 : 0 ≤ 4 * prI C / (Int.gcd (eT s).natAbs (2 * prI (C.take (s.2.2.2.length - 1))) : Int) ∧ 4 * prI C / (Int.gcd (eT s).natAbs (2 * prI (C.take (s.2.2.2.length - 1))) : Int) ≤ 800000000000 := ⟨Int.ediv_nonneg (by omega) (by omega), Int.le_trans (Int.ediv_le_self _ (by omega)) (by omega)⟩
  generalize hgg : (Int.gcd (eT s).natAbs (2 * prI (C.take (s.2.2.2.length - 1))) : Int) = mid at kgc kd3 kd4 ⊢
  generalize hp2 : prI (C.take (s.2.2.2.length - 2)) = p2 at kp2 kd2 kd3 ⊢
  generalize hp1 : prI (C.take (s.2.2.2.length - 1)) = p1 at kp1 hgg
  generalize hpc : prI C = pc0 at kp0 kd4 ⊢
  have cp2 : ∀ (G : GT) (μ : Mem), RepV μ 154 C → Ctr G mX2_product [.ref 153, vi ((s.2.2.2.length : Int) - 2)] (Hp μ) (R1 (vl p2) (Hp μ)) := fun G μ h => by
    have := c_product (G := G) h (n := (s.2.2.2.length : Int) - 2) (by omega) (by omega) (by omega)
    rw [n2, hp2] at this; exact this
  have cp1 : ∀ (G : GT) (μ : Mem), RepV μ 154 C → Ctr G mX2_product [.ref 153, vi ((s.2.2.2.length : Int) - 1)] (Hp μ) (R1 (vl p1) (Hp μ)) := fun G μ h => by
    have := c_product (G := G) h (n := (s.2.2.2.length : Int) - 1) (by omega) (by omega) (by omega)
    rw [n1, hp1] at this; exact this
  have cp0 : ∀ (G : GT) (μ : Mem), RepV μ 154 C → Ctr G mX2_product [.ref 153, vi (s.2.2.2.length : Int)] (Hp μ) (R1 (vl pc0) (Hp μ)) := fun G μ h => by
    have := c_product (G := G) h (n := (s.2.2.2.length : Int)) (by omega) (by omega) (by omega)
    rw [Int.toNat_natCast, c0, hpc] at this; exact this
  have krk : ∀ μ' : Mem, μ' = up μ 153 3 (rankC s) → HomT μ' T ∧ RepV μ' 154 C ∧ Off 153 3 μ μ' ∧ RepS μ' f s := by
    rintro μ' rfl
    have ho : Off 153 3 μ (up μ 153 3 (rankC s)) := Off.rf.up (by omega) (by omega)
    exact ⟨⟨by rw [up_r, if_neg (by omega)]; exact hT.1, hT.2.1, hT.2.2.kept (up_ne 155 (by decide))⟩, hR.kept (up_ne 154 (by decide)), ho, hs.off ho (by omega)⟩
  have ha1 := add1_len T (mid / p2)
  refine E_aload_n dX2_study_38 rfl ?_
  refine E_callVR dX2_study_39 lkX2_35 (Hp_get hf.1) (c_eulerTop hf hs hok) ?_
  refine E_callSR dX2_study_42 lkX2_39 (c_absl (x := eT s) (by omega)) ?_
  refine E_lstore_n dX2_study_45 ?_
  refine E_aload_n dX2_study_46 rfl ?_
  refine E_aload_n dX2_study_47 rfl ?_
  refine GX2_26 hf.1 dX2_study_48 ?_
  refine E_iconst dX2_study_51 ?_
  refine E_isub dX2_study_52 ?_
  rw [kl]
  refine E_callVR dX2_study_53 lkX2_45 (Hp_get sk_153) (cp2 G μ hR) ?_
  refine E_lstore dX2_study_56 ?_
  refine E_aload_n dX2_study_58 rfl ?_
  refine GX2_49 hf.1 dX2_study_59 ?_
  refine E_if_ne 100 dX2_study_62 (fun h62 => ?_) (fun h62 => ?_)
  · -- 100
    refine E_aload_n dX2_study_100 rfl ?_
    refine E_aload_n dX2_study_101 rfl ?_
    refine GX2_52 hf.1 dX2_study_102 ?_
    refine E_iconst dX2_study_105 ?_
    refine E_isub dX2_study_106 ?_
    rw [show μ f 1 - 1 = rankC s by unfold rankC; rw [if_neg (by omega), hs.2.1]]
    obtain ⟨q1, q2, q3, q4⟩ := krk _ rfl
    rw [if_neg (show ¬ s.1 = 0 by omega)]
    refine PX2_55 sk_153 dX2_study_107 ?_
    refine E_lload_n dX2_study_110 rfl ?_
    refine E_ldc2 dX2_study_111 coX2_64 ?_
    refine E_aload_n dX2_study_114 rfl ?_
    refine E_aload_n dX2_study_115 rfl ?_
    refine GX2_26 hf.1 dX2_study_116 ?_
    rw [q4.2.2.2.1]
    refine E_iconst dX2_study_119 ?_
    refine E_isub dX2_study_120 ?_
    refine E_callVR dX2_study_121 lkX2_45 (Hp_get sk_153) (cp1 G _ q2) ?_
    refine E_lmul dX2_study_124 ?_
    refine E_callSR dX2_study_125 lkX2_66 (c_gcd (x := ((eT s).natAbs : Int)) (z := 2 * p1) (by omega) (by omega)) ?_
    rw [hgg]
    refine E_lstore dX2_study_128 ?_
    refine E_aload_n dX2_study_130 rfl ?_
    refine E_lload dX2_study_131 rfl ?_
    refine E_lload dX2_study_133 rfl ?_
    refine E_callSR dX2_study_135 lkX2_58 (c_quotient (x := mid) (z := p2) (by omega) (by omega)) ?_
    refine E_callVV dX2_study_138 lkX2_31 (Hp_get sk_153) (c_hadd (x := mid / p2) q1 (by omega) (by omega)) ?_
    rintro μ3 ⟨g1, g2, g3, g4⟩
    have q5 := q4.off g4 (by omega)
    refine E_aload_n dX2_study_141 rfl ?_
    refine E_ldc2 dX2_study_142 coX2_69 ?_
    refine E_aload_n dX2_study_145 rfl ?_
    refine E_aload_n dX2_study_146 rfl ?_
    refine GX2_26 hf.1 dX2_study_147 ?_
    rw [q5.2.2.2.1]
    refine E_callVR dX2_study_150 lkX2_45 (Hp_get sk_153) (cp0 G _ (q2.kept g3)) ?_
    refine E_lmul dX2_study_153 ?_
    refine E_lload dX2_study_154 rfl ?_
    refine E_callSR dX2_study_156 lkX2_58 (c_quotient (x := 4 * pc0) (z := mid) (by omega) (by omega)) ?_
    refine E_callVV dX2_study_159 lkX2_31 (Hp_get sk_153) (c_hadd (x := 4 * pc0 / mid) g1 (by omega) (by omega)) ?_
    rintro μ4 ⟨k1, k2, k3, k4⟩
    refine E_vret dX2_study_162 ?_
    exact ⟨rfl, _, rfl, k1, by rw [k2, g2, up_r, if_pos rfl], (q3.tr g4).tr k4⟩
  · -- 65
    refine E_aload_n dX2_study_65 rfl ?_
    refine E_iconst dX2_study_66 ?_
    refine E_aload_n dX2_study_67 rfl ?_
    refine GX2_52 hf.1 dX2_study_68 ?_
    refine E_imul dX2_study_71 ?_
    refine E_lload_n dX2_study_72 rfl ?_
    refine E_lconst0 dX2_study_73 ?_
    refine E_lcmp_ne 82 dX2_study_74 dX2_study_75 (fun h74 => ?_) (fun h74 => ?_)
    · -- 82
      refine E_iconst dX2_study_82 ?_
      refine E_iadd dX2_study_83 ?_
      first | rw [show 2 * μ f 1 + 1 = rankC s by unfold rankC; rw [if_pos (by omega), if_pos (by omega), hs.2.1]] | rw [show 2 * μ f 1 + 0 = rankC s by unfold rankC; rw [if_pos (by omega), if_neg (by omega), hs.2.1]]
      obtain ⟨q1, q2, q3, q4⟩ := krk _ rfl
      refine PX2_55 sk_153 dX2_study_84 ?_
      refine E_aload_n dX2_study_87 rfl ?_
      refine E_lload_n dX2_study_88 rfl ?_
      refine E_lload dX2_study_89 rfl ?_
      refine E_callSR dX2_study_91 lkX2_58 (c_quotient (x := ((eT s).natAbs : Int)) (z := p2) (by omega) (by omega)) ?_
      refine E_callVV dX2_study_94 lkX2_31 (Hp_get sk_153) (c_hadd (x := ((eT s).natAbs : Int) / p2) q1 (by omega) (by omega)) ?_
      rintro μ3 ⟨g1, g2, g3, g4⟩
      rw [if_pos (show s.1 = 0 by omega)]
      refine E_goto 162 dX2_study_97 ?_
      exact E_vret dX2_study_162 ⟨rfl, _, rfl, g1, by rw [g2, up_r, if_pos rfl], q3.tr g4⟩
      skip
    · -- 78
      refine E_iconst dX2_study_78 ?_
      refine E_goto 83 dX2_study_79 ?_
      refine E_iadd dX2_study_83 ?_
      first | rw [show 2 * μ f 1 + 1 = rankC s by unfold rankC; rw [if_pos (by omega), if_pos (by omega), hs.2.1]] | rw [show 2 * μ f 1 + 0 = rankC s by unfold rankC; rw [if_pos (by omega), if_neg (by omega), hs.2.1]]
      obtain ⟨q1, q2, q3, q4⟩ := krk _ rfl
      refine PX2_55 sk_153 dX2_study_84 ?_
      refine E_aload_n dX2_study_87 rfl ?_
      refine E_lload_n dX2_study_88 rfl ?_
      refine E_lload dX2_study_89 rfl ?_
      refine E_callSR dX2_study_91 lkX2_58 (c_quotient (x := ((eT s).natAbs : Int)) (z := p2) (by omega) (by omega)) ?_
      refine E_callVV dX2_study_94 lkX2_31 (Hp_get sk_153) (c_hadd (x := ((eT s).natAbs : Int) / p2) q1 (by omega) (by omega)) ?_
      rintro μ3 ⟨g1, g2, g3, g4⟩
      rw [if_pos (show s.1 = 0 by omega)]
      refine E_goto 162 dX2_study_97 ?_
      exact E_vret dX2_study_162 ⟨rfl, _, rfl, g1, by rw [g2, up_r, if_pos rfl], q3.tr g4⟩
      skip
theorem c_study {s : Sp} (hf : isSp f) (hfd : f + 3 ≤ 153 ∨ 156 ≤ f) (hs : RepS μ f s) (hok : spOk s) : Ctr G mX2_study [.ref 153, .ref f] (Hp μ) (V0 (fun μ' => HomT μ' (torC s) ∧ μ' 153 3 = rankC s ∧ Off 153 3 μ μ')) := by
  refine Ctr.of ?_
  have kb := hok.2.2.2.2.2.1
  have hCl : (chain (s.2.2.2.map Prod.fst)).length = s.2.2.2.length := by rw [chain_len]; simp
  have hlen : (((chain (s.2.2.2.map Prod.fst)).take (s.2.2.2.length - 2)).foldl add1 []).length ≤ 4 := by
    have := fold_add_len ((chain (s.2.2.2.map Prod.fst)).take (s.2.2.2.length - 2)) []
    rw [List.length_take, hCl] at this
    simp only [List.length_nil] at this
    omega
  refine E_aload_n dX2_study_0 rfl ?_
  refine E_aload_n dX2_study_1 rfl ?_
  refine E_callVV dX2_study_2 lkX2_18 (Hp_get sk_153) (c_makeChain hf hfd hs hok) ?_
  rintro μ1 ⟨a1, a2, a3⟩
  refine E_aload_n dX2_study_5 rfl ?_
  refine E_iconst dX2_study_6 ?_
  refine PX2_22 sk_153 dX2_study_7 ?_
  refine E_iconst dX2_study_10 ?_
  refine E_istore_n dX2_study_11 ?_
  have a4 : Off 153 3 μ (up μ1 153 2 0) := (a3.wide (by omega) (by omega)).up (by omega) (by omega)
  refine study_loop (G := G) (μ := μ) hf hfd hs hok a2 hCl _ [] [] (up μ1 153 2 0) rfl ⟨by rw [up_r, if_pos rfl]; rfl, by simp, RepV.nil⟩ (by simp) (a1.kept (up_ne 154 (by decide))) a4 (fun w μ2 b1 b2 b3 => ?_)
  have b4 := hs.off b3 (by omega)
  refine E_mono ?_ (st_tail (G := G) hf hfd b4 hok a2 hCl w _ b1 hlen b2)
  rintro v M ⟨hv, μ', hM, d1, d2, d3⟩
  refine ⟨hv, μ', hM, ?_, d2, b3.tr d3⟩
  exact d1
theorem ord_loop {T : List Int} (hT : HomT μ T) : ∀ (q p : List Int) (b : Int), p ++ q = T →
    E G mX2_order (Zq G mX2_order (R1 (vl (b * prI q)) (Hp μ))) 0 0 15 [.ref 153, vl b, .retAddr 0, vi (p.length : Int)] [] (Hp μ) := by
  obtain ⟨k1, k2, k3⟩ := hT
  intro q
  induction q with
  | nil =>
    intro p b e1
    have e2 : p.length = T.length := by rw [← e1]; simp
    refine E_iload_n dX2_order_15 rfl ?_
    refine E_aload_n dX2_order_16 rfl ?_
    refine GX2_22 sk_153 dX2_order_17 ?_
    refine E_icmp_ge 38 dX2_order_20 (fun h20 => ?_) (fun h20 => ?_)
    · -- 38
      refine E_lload_n dX2_order_38 rfl ?_
      refine E_lret dX2_order_39 ?_
      exact ⟨by simp [prI], rfl⟩
    · -- 23
      exfalso; omega
  | cons x q ih =>
    intro p b e1
    have e2 : p.length + 1 + q.length = T.length := by rw [← e1]; simp; omega
    have e3 : μ 155 p.length = x := by rw [← e1] at k3; exact k3.mid
    refine E_iload_n dX2_order_15 rfl ?_
    refine E_aload_n dX2_order_16 rfl ?_
    refine GX2_22 sk_153 dX2_order_17 ?_
    refine E_icmp_ge 38 dX2_order_20 (fun h20 => ?_) (fun h20 => ?_)
    · -- 38
      exfalso; omega
    · -- 23
      refine E_lload_n dX2_order_23 rfl ?_
      refine E_aload_n dX2_order_24 rfl ?_
      refine GX2_15 sk_153 dX2_order_25 ?_
      refine E_iload_n dX2_order_28 rfl ?_
      refine H_lald sk_155 dX2_order_29 ?_
      rw [e3]
      refine E_lmul dX2_order_30 ?_
      refine E_lstore_n dX2_order_31 ?_
      refine E_iinc dX2_order_32 rfl ?_
      refine E_goto 15 dX2_order_35 ?_
      have := ih (p ++ [x]) (b * x) (by rw [← e1]; simp)
      rw [show ((p ++ [x]).length : Int) = (p.length : Int) + 1 by simp, Int.mul_assoc] at this
      exact this
theorem c_order {T : List Int} {rk : Int} (hT : HomT μ T) (hr : μ 153 3 = rk) (hrk : -1000 ≤ rk ∧ rk ≤ 1000) : Ctr G mX2_order [.ref 153] (Hp μ) (R1 (vl ((if rk = 0 then 1 else 0) * prI T)) (Hp μ)) := by
  refine Ctr.of ?_
  refine E_aload_n dX2_order_0 rfl ?_
  refine GX2_55 sk_153 dX2_order_1 ?_
  refine E_if_ne 11 dX2_order_4 (fun h4 => ?_) (fun h4 => ?_)
  · -- 11
    refine E_lconst0 dX2_order_11 ?_
    refine E_lstore_n dX2_order_12 ?_
    refine E_iconst dX2_order_13 ?_
    refine E_istore_n dX2_order_14 ?_
    first | (rw [if_pos (show rk = 0 by omega)]; exact ord_loop hT T [] 1 rfl) | (rw [if_neg (show ¬ rk = 0 by omega)]; exact ord_loop hT T [] 0 rfl)
  · -- 7
    refine E_lconst1 dX2_order_7 ?_
    refine E_goto 12 dX2_order_8 ?_
    refine E_lstore_n dX2_order_12 ?_
    refine E_iconst dX2_order_13 ?_
    refine E_istore_n dX2_order_14 ?_
    first | (rw [if_pos (show rk = 0 by omega)]; exact ord_loop hT T [] 1 rfl) | (rw [if_neg (show ¬ rk = 0 by omega)]; exact ord_loop hT T [] 0 rfl)
def gcP (m : Int) : List Int → Int
  | [] => 1
  | x :: t => (Int.gcd x m : Int) * gcP m t
theorem mapI_loop {T : List Int} {m : Int} (hT : HomT μ T) (hm : 2 ≤ m ∧ m ≤ 12) (hTr : ∀ x ∈ T, -4000000000000000000 ≤ x ∧ x ≤ 4000000000000000000) : ∀ (q p : List Int) (b : Int), p ++ q = T →
    E G mX2_mapsInto (Zq G mX2_mapsInto (R1 (vl (b * gcP m q)) (Hp μ))) 0 0 28 [.ref 153, vi m, vl b, .retAddr 0, vi (p.length : Int)] [] (Hp μ) := by
  obtain ⟨k1, k2, k3⟩ := hT
  intro q
  induction q with
  | nil =>
    intro p b e1
    have e2 : p.length = T.length := by rw [← e1]; simp
    refine E_iload dX2_mapsInto_28 rfl ?_
    refine E_aload_n dX2_mapsInto_30 rfl ?_
    refine GX2_22 sk_153 dX2_mapsInto_31 ?_
    refine E_icmp_ge 58 dX2_mapsInto_34 (fun h34 => ?_) (fun h34 => ?_)
    · -- 58
      refine E_lload_n dX2_mapsInto_58 rfl ?_
      refine E_lret dX2_mapsInto_59 ?_
      exact ⟨by simp [gcP], rfl⟩
    · -- 37
      exfalso; omega
  | cons x q ih =>
    intro p b e1
    have e2 : p.length + 1 + q.length = T.length := by rw [← e1]; simp; omega
    have e3 : μ 155 p.length = x := by rw [← e1] at k3; exact k3.mid
    have e4 := hTr x (by rw [← e1]; simp)
    refine E_iload dX2_mapsInto_28 rfl ?_
    refine E_aload_n dX2_mapsInto_30 rfl ?_
    refine GX2_22 sk_153 dX2_mapsInto_31 ?_
    refine E_icmp_ge 58 dX2_mapsInto_34 (fun h34 => ?_) (fun h34 => ?_)
    · -- 58
      exfalso; omega
    · -- 37
      refine E_lload_n dX2_mapsInto_37 rfl ?_
      refine E_aload_n dX2_mapsInto_38 rfl ?_
      refine GX2_15 sk_153 dX2_mapsInto_39 ?_
      refine E_iload dX2_mapsInto_42 rfl ?_
      refine H_lald sk_155 dX2_mapsInto_44 ?_
      rw [e3]
      refine E_iload_n dX2_mapsInto_45 rfl ?_
      refine E_i2l dX2_mapsInto_46 ?_
      refine E_callSR dX2_mapsInto_47 lkX2_66 (c_gcd (x := x) (z := m) (by omega) (by omega)) ?_
      refine E_lmul dX2_mapsInto_50 ?_
      refine E_lstore_n dX2_mapsInto_51 ?_
      refine E_iinc dX2_mapsInto_52 rfl ?_
      refine E_goto 28 dX2_mapsInto_55 ?_
      have := ih (p ++ [x]) (b * (Int.gcd x m : Int)) (by rw [← e1]; simp)
      rw [show ((p ++ [x]).length : Int) = (p.length : Int) + 1 by simp, Int.mul_assoc] at this
      exact this
theorem mapR_loop {T : List Int} {m : Int} (hT : HomT μ T) (hm : 2 ≤ m ∧ m ≤ 12) (hTr : ∀ x ∈ T, -4000000000000000000 ≤ x ∧ x ≤ 4000000000000000000) {rk : Nat} (hr : μ 153 3 = rk) (hrk : rk ≤ 1000) : ∀ (t k : Nat) (b : Int), k + t = rk →
    E G mX2_mapsInto (Zq G mX2_mapsInto (R1 (vl (b * m ^ t * gcP m T)) (Hp μ))) 0 0 5 [.ref 153, vi m, vl b, .retAddr 0, vi (k : Int)] [] (Hp μ) := by
  intro t
  induction t with
  | zero =>
    intro k b e1
    refine E_iload dX2_mapsInto_5 rfl ?_
    refine E_aload_n dX2_mapsInto_7 rfl ?_
    refine GX2_55 sk_153 dX2_mapsInto_8 ?_
    refine E_icmp_ge 25 dX2_mapsInto_11 (fun h11 => ?_) (fun h11 => ?_)
    · -- 25
      refine E_iconst dX2_mapsInto_25 ?_
      refine E_istore dX2_mapsInto_26 ?_
      have := mapI_loop (G := G) hT hm hTr T [] b rfl
      rw [Int.pow_zero, Int.mul_one]
      exact this
    · -- 14
      exfalso; omega
  | succ t ih =>
    intro k b e1
    refine E_iload dX2_mapsInto_5 rfl ?_
    refine E_aload_n dX2_mapsInto_7 rfl ?_
    refine GX2_55 sk_153 dX2_mapsInto_8 ?_
    refine E_icmp_ge 25 dX2_mapsInto_11 (fun h11 => ?_) (fun h11 => ?_)
    · -- 25
      exfalso; omega
    · -- 14
      refine E_lload_n dX2_mapsInto_14 rfl ?_
      refine E_iload_n dX2_mapsInto_15 rfl ?_
      refine E_i2l dX2_mapsInto_16 ?_
      refine E_lmul dX2_mapsInto_17 ?_
      refine E_lstore_n dX2_mapsInto_18 ?_
      refine E_iinc dX2_mapsInto_19 rfl ?_
      refine E_goto 5 dX2_mapsInto_22 ?_
      have := ih (k + 1) (b * m) (by omega)
      rw [show b * m ^ (t + 1) = b * m * m ^ t by rw [Int.pow_succ, Int.mul_assoc, Int.mul_comm m]]
      exact this
def mapC (rk : Int) (T : List Int) (m : Int) : Int := m ^ rk.toNat * gcP m T
theorem c_mapsInto {T : List Int} {m rk : Int} (hT : HomT μ T) (hm : 2 ≤ m ∧ m ≤ 12) (hTr : ∀ x ∈ T, -4000000000000000000 ≤ x ∧ x ≤ 4000000000000000000) (hr : μ 153 3 = rk) (hrk : 0 ≤ rk ∧ rk ≤ 1000) : Ctr G mX2_mapsInto [.ref 153, vi m] (Hp μ) (R1 (vl (mapC rk T m)) (Hp μ)) := by
  refine Ctr.of ?_
  refine E_lconst1 dX2_mapsInto_0 ?_
  refine E_lstore_n dX2_mapsInto_1 ?_
  refine E_iconst dX2_mapsInto_2 ?_
  refine E_istore dX2_mapsInto_3 ?_
  have := mapR_loop (G := G) hT hm hTr (rk := rk.toNat) (by omega) (by omega) rk.toNat 0 1 (by omega)
  rw [Int.one_mul] at this
  exact this
/-- the observations -/
def RepO (μ : Mem) (l : List (Int × Int)) : Prop := μ 147 2 = l.length ∧ l.length ≤ 6 ∧ RepV μ 148 (l.map Prod.fst) ∧ RepV μ 149 (l.map Prod.snd)
theorem c_oadd {l : List (Int × Int)} {m v : Int} (hl : RepO μ l) (h6 : l.length < 6) : Ctr G mX7_add [.ref 147, vi m, vl v] (Hp μ) (V0 (fun μ' => RepO μ' (l ++ [(m, v)]) ∧ Off 147 3 μ μ')) := by
  refine Ctr.of ?_
  obtain ⟨k1, k2, k3, k4⟩ := hl
  refine E_aload_n dX7_add_0 rfl ?_
  refine GX7_19 sk_147 dX7_add_1 ?_
  refine E_bipush dX7_add_4 ?_
  refine E_icmp_ge 39 dX7_add_6 (fun h6 => ?_) (fun h6 => ?_)
  · -- 39
    refine E_vret dX7_add_39 ?_
    first | (exfalso; omega) | (refine ⟨rfl, _, rfl, ⟨by rw [up_r, if_pos rfl]; simp, by simp; omega, ?_, ?_⟩, ((Off.rf.up (by omega) (by omega)).up (by omega) (by omega)).up (by omega) (by omega)⟩; (have := k3.push m; rw [List.length_map] at this; rw [List.map_append]; exact this.kept (by rw [up_ne 148 (by decide), up_ne 148 (by decide)])); (have := RepV.push (μ := up μ 148 l.length m) v (k4.kept (up_ne 149 (by decide))); rw [List.length_map] at this; rw [List.map_append]; exact this.kept (by rw [up_ne 149 (by decide)])))
  · -- 9
    refine E_aload_n dX7_add_9 rfl ?_
    refine GX7_9 sk_147 dX7_add_10 ?_
    refine E_aload_n dX7_add_13 rfl ?_
    refine GX7_19 sk_147 dX7_add_14 ?_
    rw [k1]
    refine E_iload_n dX7_add_17 rfl ?_
    refine H_iast sk_148 dX7_add_18 ?_
    refine E_aload_n dX7_add_19 rfl ?_
    refine GX7_15 sk_147 dX7_add_20 ?_
    refine E_aload_n dX7_add_23 rfl ?_
    refine GX7_19 sk_147 dX7_add_24 ?_
    rw [up_ne 147 (by decide), k1]
    refine E_lload_n dX7_add_27 rfl ?_
    refine H_last sk_149 dX7_add_28 ?_
    refine E_aload_n dX7_add_29 rfl ?_
    refine E_dup dX7_add_30 ?_
    refine GX7_19 sk_147 dX7_add_31 ?_
    rw [up_ne 147 (by decide), up_ne 147 (by decide), k1]
    refine E_iconst dX7_add_34 ?_
    refine E_iadd dX7_add_35 ?_
    refine PX7_19 sk_147 dX7_add_36 ?_
    refine E_vret dX7_add_39 ?_
    first | (exfalso; omega) | (refine ⟨rfl, _, rfl, ⟨by rw [up_r, if_pos rfl]; simp, by simp; omega, ?_, ?_⟩, ((Off.rf.up (by omega) (by omega)).up (by omega) (by omega)).up (by omega) (by omega)⟩; (have := k3.push m; rw [List.length_map] at this; rw [List.map_append]; exact this.kept (by rw [up_ne 148 (by decide), up_ne 148 (by decide)])); (have := RepV.push (μ := up μ 148 l.length m) v (k4.kept (up_ne 149 (by decide))); rw [List.length_map] at this; rw [List.map_append]; exact this.kept (by rw [up_ne 149 (by decide)])))
theorem gcP_rng {m : Int} (hm : 2 ≤ m ∧ m ≤ 12) : ∀ T : List Int, 1 ≤ gcP m T ∧ gcP m T ≤ 12 ^ T.length
  | [] => by simp [gcP]
  | x :: t => by
    have h1 := gcP_rng hm t
    have h2 := Int.gcd_pos_of_ne_zero_right x (show m ≠ 0 by omega)
    have h3 := Int.gcd_le_right x (show 0 < m by omega)
    simp only [gcP, List.length_cons, Int.pow_succ]
    have t1 := Int.mul_le_mul_of_nonneg_left h1.1 (show (0 : Int) ≤ (Int.gcd x m : Int) by omega)
    have t2 := Int.mul_le_mul_of_nonneg_right (show (Int.gcd x m : Int) ≤ 12 by omega) (show 0 ≤ gcP m t by omega)
    omega
theorem mapC_rng {rk : Int} {T : List Int} {m : Int} (hm : 2 ≤ m ∧ m ≤ 12) (hT : T.length ≤ 8) (hrk : rk ≤ 9) : 1 ≤ mapC rk T m ∧ mapC rk T m ≤ 2218611106740436992 := by
  have h1 := gcP_rng hm T
  have h2 : (12 : Int) ^ T.length ≤ 12 ^ 8 := by
    have := Nat.pow_le_pow_right (n := 12) (by decide) hT
    exact_mod_cast this
  have h3 : m ^ rk.toNat ≤ 12 ^ rk.toNat := by
    obtain ⟨k, hk⟩ : ∃ k : Nat, m = k := ⟨m.toNat, by omega⟩
    subst hk
    have := Nat.pow_le_pow_left (show k ≤ 12 by omega) rk.toNat
    exact_mod_cast this
  have h4 : (12 : Int) ^ rk.toNat ≤ 12 ^ 9 := by
    have := Nat.pow_le_pow_right (n := 12) (by decide) (show rk.toNat ≤ 9 by omega)
    exact_mod_cast this
  have h5 : 0 < m ^ rk.toNat := Int.pow_pos (by omega)
  have e8 : (12 : Int) ^ 8 = 429981696 := by decide
  have e9 : (12 : Int) ^ 9 = 5159780352 := by decide
  unfold mapC
  have t1 := Int.mul_le_mul_of_nonneg_left h1.1 (show 0 ≤ m ^ rk.toNat by omega)
  have t2 := Int.mul_le_mul (show m ^ rk.toNat ≤ 5159780352 by omega) (show gcP m T ≤ 429981696 by omega) (by omega) (by omega)
  omega
def agr (rk : Int) (T : List Int) (l : List (Int × Int)) : Bool := l.all (fun x => decide (mapC rk T x.1 = x.2))
def agrI (rk : Int) (T : List Int) (b : Int) (l : List (Int × Int)) : Int := if b = 1 ∧ agr rk T l = true then 1 else 0
def obOk (x : Int × Int) : Prop := 2 ≤ x.1 ∧ x.1 ≤ 12 ∧ 0 ≤ x.2 ∧ x.2 < 9223372036854775808
theorem agr_loop {l : List (Int × Int)} {T : List Int} {rk : Int} (hl : RepO μ l) (hlo : ∀ x ∈ l, obOk x) (hT : HomT μ T) (hTr : ∀ x ∈ T, -4000000000000000000 ≤ x ∧ x ≤ 4000000000000000000) (hr : μ 153 3 = rk) (hrk : 0 ≤ rk ∧ rk ≤ 9) : ∀ (q p : List (Int × Int)) (b : Int), b = 0 ∨ b = 1 → p ++ q = l →
    E G mX7_agree (Zq G mX7_agree (R1 (vi (agrI rk T b q)) (Hp μ))) 0 0 4 [.ref 147, .ref 153, vi b, vi (p.length : Int)] [] (Hp μ) := by
  obtain ⟨k1, k2, k3, k4⟩ := hl
  intro q
  induction q with
  | nil =>
    intro p b hbb e1
    have e2 : p.length = l.length := by rw [← e1]; simp
    refine E_iload_n dX7_agree_4 rfl ?_
    refine E_aload_n dX7_agree_5 rfl ?_
    refine GX7_19 sk_147 dX7_agree_6 ?_
    refine E_icmp_ge 48 dX7_agree_9 (fun h9 => ?_) (fun h9 => ?_)
    · -- 48
      refine E_iload_n dX7_agree_48 rfl ?_
      refine E_zret dX7_agree_49 ?_ (by first | exact Or.inl rfl | exact Or.inr rfl | omega)
      rcases hbb with rfl | rfl <;> exact ⟨by simp [agrI, agr], rfl⟩
    · -- 12
      exfalso; omega
  | cons x q ih =>
    intro p b hbb e1
    have e2 : p.length + 1 + q.length = l.length := by rw [← e1]; simp; omega
    have e3 : μ 148 p.length = x.1 := by
      rw [← e1] at k3
      simp only [List.map_append, List.map_cons] at k3
      have := k3.mid
      rwa [List.length_map] at this
    have e4 : μ 149 p.length = x.2 := by
      rw [← e1] at k4
      simp only [List.map_append, List.map_cons] at k4
      have := k4.mid
      rwa [List.length_map] at this
    obtain ⟨x1, x2, x3, x4⟩ := hlo x (by rw [← e1]; simp)
    have e5 := mapC_rng (rk := rk) (T := T) (m := x.1) ⟨x1, x2⟩ hT.2.1 hrk.2
    have ih' := fun b hb => ih (p ++ [x]) b hb (by rw [← e1]; simp)
    rw [show ((p ++ [x]).length : Int) = (p.length : Int) + 1 by simp] at ih'
    have f1 : b = 1 → mapC rk T x.1 = x.2 → agrI rk T b (x :: q) = agrI rk T 1 q := fun h2 h3 => by
      have hc : agr rk T (x :: q) = agr rk T q := by simp [agr, h3]
      unfold agrI; rw [h2, hc]
    have f0 : ¬ (b = 1 ∧ mapC rk T x.1 = x.2) → agrI rk T b (x :: q) = agrI rk T 0 q := fun h2 => by
      have hc : agr rk T (x :: q) = true → mapC rk T x.1 = x.2 := fun h3 => by simp only [agr, List.all_cons, Bool.and_eq_true, decide_eq_true_eq] at h3; exact h3.1
      unfold agrI
      rw [if_neg (fun h3 => h2 ⟨h3.1, hc h3.2⟩), if_neg (fun h3 => absurd h3.1 (by decide))]
    refine E_iload_n dX7_agree_4 rfl ?_
    refine E_aload_n dX7_agree_5 rfl ?_
    refine GX7_19 sk_147 dX7_agree_6 ?_
    refine E_icmp_ge 48 dX7_agree_9 (fun h9 => ?_) (fun h9 => ?_)
    · -- 48
      exfalso; omega
    · -- 12
      refine E_iload_n dX7_agree_12 rfl ?_
      refine E_if_eq 40 dX7_agree_13 (fun h13 => ?_) (fun h13 => ?_)
      · -- 40
        refine E_iconst dX7_agree_40 ?_
        refine E_istore_n dX7_agree_41 ?_
        refine E_iinc dX7_agree_42 rfl ?_
        refine E_goto 4 dX7_agree_45 ?_
        first | (rw [f1 (by omega) (by omega)]; exact ih' 1 (Or.inr rfl)) | (rw [f0 (by omega)]; exact ih' 0 (Or.inl rfl))
      · -- 16
        refine E_aload_n dX7_agree_16 rfl ?_
        refine E_aload_n dX7_agree_17 rfl ?_
        refine GX7_9 sk_147 dX7_agree_18 ?_
        refine E_iload_n dX7_agree_21 rfl ?_
        refine H_iald sk_148 dX7_agree_22 ?_
        rw [e3]
        refine E_callVR dX7_agree_23 lkX7_23 (Hp_get sk_153) (c_mapsInto (m := x.1) hT ⟨x1, x2⟩ hTr hr (by omega)) ?_
        refine E_aload_n dX7_agree_26 rfl ?_
        refine GX7_15 sk_147 dX7_agree_27 ?_
        refine E_iload_n dX7_agree_30 rfl ?_
        refine H_lald sk_149 dX7_agree_31 ?_
        rw [e4]
        refine E_lcmp_ne 40 dX7_agree_32 dX7_agree_33 (fun h32 => ?_) (fun h32 => ?_)
        · -- 40
          refine E_iconst dX7_agree_40 ?_
          refine E_istore_n dX7_agree_41 ?_
          refine E_iinc dX7_agree_42 rfl ?_
          refine E_goto 4 dX7_agree_45 ?_
          first | (rw [f1 (by omega) (by omega)]; exact ih' 1 (Or.inr rfl)) | (rw [f0 (by omega)]; exact ih' 0 (Or.inl rfl))
        · -- 36
          refine E_iconst dX7_agree_36 ?_
          refine E_goto 41 dX7_agree_37 ?_
          refine E_istore_n dX7_agree_41 ?_
          refine E_iinc dX7_agree_42 rfl ?_
          refine E_goto 4 dX7_agree_45 ?_
          first | (rw [f1 (by omega) (by omega)]; exact ih' 1 (Or.inr rfl)) | (rw [f0 (by omega)]; exact ih' 0 (Or.inl rfl))
theorem c_agree {l : List (Int × Int)} {T : List Int} {rk : Int} (hl : RepO μ l) (hlo : ∀ x ∈ l, obOk x) (hT : HomT μ T) (hTr : ∀ x ∈ T, -4000000000000000000 ≤ x ∧ x ≤ 4000000000000000000) (hr : μ 153 3 = rk) (hrk : 0 ≤ rk ∧ rk ≤ 9) : Ctr G mX7_agree [.ref 147, .ref 153] (Hp μ) (R1 (vi (if agr rk T l = true then 1 else 0)) (Hp μ)) := by
  refine Ctr.of ?_
  refine E_iconst dX7_agree_0 ?_
  refine E_istore_n dX7_agree_1 ?_
  refine E_iconst dX7_agree_2 ?_
  refine E_istore_n dX7_agree_3 ?_
  have := agr_loop (G := G) hl hlo hT hTr hr hrk l [] 1 (Or.inr rfl) rfl
  rw [show agrI rk T 1 l = if agr rk T l = true then 1 else 0 by simp [agrI]] at this
  exact this
end HOMOLOGY
