/-! chains of divisors, the first homology as the class has it -/
def prI : List Int → Int
  | [] => 1
  | x :: t => x * prI t
theorem prI_app (p q : List Int) : prI (p ++ q) = prI p * prI q := by
  induction p with
  | nil => simp [prI]
  | cons x t ih => simp [prI, ih, Int.mul_assoc]
def RepV (μ : Mem) (A : Nat) (l : List Int) : Prop := ∀ (k : Nat) (x : Int), l[k]? = some x → μ A k = x
theorem RepV.kept {μ μ' : Mem} {A : Nat} {l : List Int} (h : RepV μ A l) (hA : μ' A = μ A) : RepV μ' A l := fun k x hx => by rw [hA]; exact h k x hx
theorem RepV.mid {μ : Mem} {A : Nat} {p t : List Int} {x : Int} (h : RepV μ A (p ++ x :: t)) : μ A p.length = x := h p.length x (by simp)
theorem RepV.set {μ : Mem} {A : Nat} {p t : List Int} {x : Int} (y : Int) (h : RepV μ A (p ++ x :: t)) : RepV (up μ A p.length y) A (p ++ y :: t) := by
  intro k z hz
  rw [up_r]
  by_cases hk : k = p.length
  · subst hk
    simp at hz
    rw [if_pos rfl]; exact hz
  · rw [if_neg (by omega)]
    refine h k z ?_
    by_cases hl : k < p.length
    · rw [List.getElem?_append_left hl] at hz ⊢; exact hz
    · rw [List.getElem?_append_right (by omega)] at hz ⊢
      obtain ⟨j, hj⟩ : ∃ j, k - p.length = j + 1 := ⟨k - p.length - 1, by omega⟩
      rw [hj] at hz ⊢
      simpa using hz
theorem RepV.push {μ : Mem} {A : Nat} {p : List Int} (y : Int) (h : RepV μ A p) : RepV (up μ A p.length y) A (p ++ [y]) := by
  intro k z hz
  rw [up_r]
  by_cases hk : k = p.length
  · subst hk
    simp at hz
    rw [if_pos rfl]; exact hz
  · have hl : k < p.length := by have := (List.getElem?_eq_some_iff.mp hz).1; simp at this; omega
    rw [if_neg (by omega)]
    rw [List.getElem?_append_left hl] at hz
    exact h k z hz
theorem RepV.nil {μ : Mem} {A : Nat} : RepV μ A [] := fun k x hx => by simp at hx
theorem RepV.take {μ : Mem} {A n : Nat} {l : List Int} (h : RepV μ A l) : RepV μ A (l.take n) := fun k x hx => h k x (by rw [List.getElem?_take] at hx; split at hx; exact hx; simp at hx)
def sweep : Int → List Int → Int × List Int
  | c, [] => (c, [])
  | c, y :: t => ((sweep (Int.gcd c y) t).1, y * (c / (Int.gcd c y : Int)) :: (sweep (Int.gcd c y) t).2)
theorem sweep_len : ∀ (t : List Int) (c : Int), (sweep c t).2.length = t.length
  | [], _ => rfl
  | y :: t, c => by simp [sweep, sweep_len t]
def chainN : Nat → List Int → List Int
  | 0, _ => []
  | _ + 1, [] => []
  | n + 1, c :: t => (sweep c t).1 :: chainN n (sweep c t).2
theorem chainN_len : ∀ (n : Nat) (l : List Int), l.length = n → (chainN n l).length = n
  | 0, _, _ => rfl
  | n + 1, [], h => by simp at h
  | n + 1, c :: t, h => by
    simp only [chainN, List.length_cons]
    rw [chainN_len n _ (by rw [sweep_len]; simpa using h)]
def chain (l : List Int) : List Int := chainN l.length l
theorem chain_len (l : List Int) : (chain l).length = l.length := chainN_len _ _ rfl
def okL (l : List Int) : Prop := (∀ x ∈ l, 1 ≤ x) ∧ prI l ≤ 729000000
theorem prI_pos : ∀ {l : List Int}, (∀ x ∈ l, 1 ≤ x) → 1 ≤ prI l
  | [], _ => by simp [prI]
  | x :: t, h => by
    have h1 := prI_pos (l := t) (fun z hz => h z (List.mem_cons_of_mem _ hz))
    have h2 := h x List.mem_cons_self
    have := Int.mul_le_mul_of_nonneg_left h1 (show 0 ≤ x by omega)
    simp only [prI]
    omega
theorem mem_le : ∀ {l : List Int} {x : Int}, (∀ x ∈ l, 1 ≤ x) → x ∈ l → x ≤ prI l
  | [], _, _, h => by simp at h
  | y :: t, x, h, hx => by
    have h1 := prI_pos (l := t) (fun z hz => h z (List.mem_cons_of_mem _ hz))
    have h2 := h y List.mem_cons_self
    simp only [prI]
    rcases List.mem_cons.mp hx with rfl | hx
    · have := Int.mul_le_mul_of_nonneg_left h1 (show 0 ≤ x by omega)
      omega
    · have h3 := mem_le (l := t) (fun z hz => h z (List.mem_cons_of_mem _ hz)) hx
      have := Int.mul_le_mul_of_nonneg_right h2 (show 0 ≤ prI t by omega)
      omega
theorem okL.le {l : List Int} {x : Int} (h : okL l) (hx : x ∈ l) : 1 ≤ x ∧ x ≤ 729000000 := ⟨h.1 x hx, Int.le_trans (mem_le h.1 hx) h.2⟩
theorem gp {c y : Int} (hc : 1 ≤ c) (hy : 1 ≤ y) : 1 ≤ (Int.gcd c y : Int) ∧ (Int.gcd c y : Int) ≤ c ∧ 1 ≤ c / (Int.gcd c y : Int) ∧ (Int.gcd c y : Int) * (c / (Int.gcd c y : Int)) = c := by
  have h1 : 0 < Int.gcd c y := Int.gcd_pos_of_ne_zero_left y (by omega)
  have h2 := Int.gcd_le_left y (show 0 < c by omega)
  have h3 : (Int.gcd c y : Int) * (c / (Int.gcd c y : Int)) = c := Int.mul_ediv_cancel' (Int.gcd_dvd_left c y)
  refine ⟨by omega, h2, ?_, h3⟩
  have := Int.ediv_nonneg (show 0 ≤ c by omega) (show (0 : Int) ≤ (Int.gcd c y : Int) by omega)
  rcases (show c / (Int.gcd c y : Int) = 0 ∨ 1 ≤ c / (Int.gcd c y : Int) by omega) with h | h
  · rw [h] at h3; omega
  · exact h
theorem okL_step {p d t : List Int} {c y : Int} (h : okL (p ++ c :: (d ++ y :: t))) : okL (p ++ (Int.gcd c y : Int) :: (d ++ y * (c / (Int.gcd c y : Int)) :: t)) := by
  have hc := h.1 c (by simp)
  have hy := h.1 y (by simp)
  obtain ⟨g1, g2, g3, g4⟩ := gp hc hy
  refine ⟨fun x hx => ?_, ?_⟩
  · simp only [List.mem_append, List.mem_cons] at hx
    rcases hx with hx | rfl | hx | rfl | hx
    · exact h.1 x (by simp [hx])
    · exact g1
    · exact h.1 x (by simp [hx])
    · have := Int.mul_le_mul_of_nonneg_left g3 (show 0 ≤ y by omega)
      omega
    · exact h.1 x (by simp [hx])
  · have h2 := h.2
    have e : prI (p ++ (Int.gcd c y : Int) :: (d ++ y * (c / (Int.gcd c y : Int)) :: t)) = prI (p ++ c :: (d ++ y :: t)) := by
      simp only [prI_app, prI]
      have e2 : (Int.gcd c y : Int) * (prI d * (y * (c / (Int.gcd c y : Int)) * prI t)) = ((Int.gcd c y : Int) * (c / (Int.gcd c y : Int))) * (prI d * (y * prI t)) := by
        generalize (Int.gcd c y : Int) = g
        generalize c / g = e
        simp only [Int.mul_assoc, Int.mul_comm, Int.mul_left_comm]
      rw [e2, g4]
    rw [e]; exact h2
section HOMOLOGY
variable {G : GT} {μ : Mem} {f : Nat}
theorem ch_inner {s : Sp} (hf : isSp f) (hfd : f + 3 ≤ 153 ∨ 156 ≤ f) (hs : RepS μ f s) (hok : spOk s) {Q : QT} (p : List Int) : ∀ (t d : List Int) (c : Int) (w : Value) (μ' : Mem), (p ++ c :: (d ++ t)).length = s.2.2.2.length → RepV μ' 154 (p ++ c :: (d ++ t)) → okL (p ++ c :: (d ++ t)) → Off 154 1 μ μ' →
    (∀ (w w' : Value) (μ2 : Mem), RepV μ2 154 (p ++ (sweep c t).1 :: (d ++ (sweep c t).2)) → okL (p ++ (sweep c t).1 :: (d ++ (sweep c t).2)) → Off 154 1 μ μ2 → E G mX2_makeChain (Zq G mX2_makeChain Q) 0 0 102 [.ref 153, .ref f, vi (p.length : Int), w', w, .retAddr 0] [] (Hp μ2)) →
    E G mX2_makeChain (Zq G mX2_makeChain Q) 0 0 43 [.ref 153, .ref f, vi (p.length : Int), vi ((p.length : Int) + 1 + d.length), w, .retAddr 0] [] (Hp μ') := by
  have hb := hok.2.2.2.2.2.1
  intro t
  induction t with
  | nil =>
    intro d c w μ' h1 h2 h3 h4 hk
    have hs' := hs.off h4 (by omega)
    have hl := hs'.2.2.2.1
    rw [← h1] at hl
    simp at hl
    rw [← h1] at hb
    simp at hb
    refine E_iload_n dX2_makeChain_43 rfl ?_
    refine E_aload_n dX2_makeChain_44 rfl ?_
    refine GX2_26 hf.1 dX2_makeChain_45 ?_
    refine E_icmp_ge 102 dX2_makeChain_48 (fun h48 => ?_) (fun h48 => ?_)
    · -- 102
      exact hk _ _ μ' h2 h3 h4
    · -- 51
      exfalso; omega
  | cons y t ih =>
    intro d c w μ' h1 h2 h3 h4 hk
    have hs' := hs.off h4 (by omega)
    have hl := hs'.2.2.2.1
    rw [← h1] at hl
    simp at hl
    rw [← h1] at hb
    simp at hb
    have hc := h3.le (x := c) (by simp)
    have hy := h3.le (x := y) (by simp)
    have e1 : μ' 154 p.length = c := h2.mid
    have e2 : μ' 154 ((p.length : Int) + 1 + d.length) = y := by
      have := RepV.mid (p := p ++ c :: d) (x := y) (t := t) (by simpa using h2)
      simp at this
      rw [show (p.length : Int) + 1 + d.length = (p.length : Int) + ((d.length : Int) + 1) by omega]
      exact this
    obtain ⟨g1, g2, g3, g4⟩ := gp hc.1 hy.1
    have h5 := okL_step h3
    have h6 : RepV (up (up μ' 154 ((p.length : Int) + 1 + d.length) (y * (c / (Int.gcd c y : Int)))) 154 p.length (Int.gcd c y)) 154 (p ++ (Int.gcd c y : Int) :: (d ++ y * (c / (Int.gcd c y : Int)) :: t)) := by
      refine RepV.set (x := c) _ ?_
      have := RepV.set (p := p ++ c :: d) (x := y) (t := t) (y * (c / (Int.gcd c y : Int))) (by simpa using h2)
      simp at this
      rw [show (p.length : Int) + 1 + d.length = (p.length : Int) + ((d.length : Int) + 1) by omega]
      exact this
    refine E_iload_n dX2_makeChain_43 rfl ?_
    refine E_aload_n dX2_makeChain_44 rfl ?_
    refine GX2_26 hf.1 dX2_makeChain_45 ?_
    refine E_icmp_ge 102 dX2_makeChain_48 (fun h48 => ?_) (fun h48 => ?_)
    · -- 102
      exfalso; omega
    · -- 51
      refine E_aload_n dX2_makeChain_51 rfl ?_
      refine GX2_9 sk_153 dX2_makeChain_52 ?_
      refine E_iload_n dX2_makeChain_55 rfl ?_
      refine H_lald sk_154 dX2_makeChain_56 ?_
      rw [e1]
      refine E_aload_n dX2_makeChain_57 rfl ?_
      refine GX2_9 sk_153 dX2_makeChain_58 ?_
      refine E_iload_n dX2_makeChain_61 rfl ?_
      refine H_lald sk_154 dX2_makeChain_62 ?_
      rw [e2]
      refine E_callSR dX2_makeChain_63 lkX2_66 (c_gcd (x := c) (z := y) (by omega) (by omega)) ?_
      refine E_lstore dX2_makeChain_66 ?_
      refine E_aload_n dX2_makeChain_68 rfl ?_
      refine GX2_9 sk_153 dX2_makeChain_69 ?_
      refine E_iload_n dX2_makeChain_72 rfl ?_
      refine E_dup2 dX2_makeChain_73 ?_
      refine H_lald sk_154 dX2_makeChain_74 ?_
      rw [e2]
      refine E_aload_n dX2_makeChain_75 rfl ?_
      refine GX2_9 sk_153 dX2_makeChain_76 ?_
      refine E_iload_n dX2_makeChain_79 rfl ?_
      refine H_lald sk_154 dX2_makeChain_80 ?_
      rw [e1]
      refine E_lload dX2_makeChain_81 rfl ?_
      refine E_callSR dX2_makeChain_83 lkX2_58 (c_quotient (x := c) (z := (Int.gcd c y : Int)) (by omega) (by omega)) ?_
      refine E_lmul dX2_makeChain_86 ?_
      refine H_last sk_154 dX2_makeChain_87 ?_
      refine E_aload_n dX2_makeChain_88 rfl ?_
      refine GX2_9 sk_153 dX2_makeChain_89 ?_
      refine E_iload_n dX2_makeChain_92 rfl ?_
      refine E_lload dX2_makeChain_93 rfl ?_
      refine H_last sk_154 dX2_makeChain_95 ?_
      refine E_iinc dX2_makeChain_96 rfl ?_
      refine E_goto 43 dX2_makeChain_99 ?_
      have := ih (d ++ [y * (c / (Int.gcd c y : Int))]) (Int.gcd c y) (vl (Int.gcd c y : Int)) _ (by rw [← h1]; simp) (by simpa using h6) (by simpa using h5) ((h4.up (by omega) (by omega)).up (by omega) (by omega)) (fun w w' μ2 q1 q2 q3 => hk w w' μ2 (by simpa [sweep] using q1) (by simpa [sweep] using q2) q3)
      simp only [List.length_append, List.length_cons, List.length_nil] at this
      rw [show (p.length : Int) + 1 + ((d.length + (0 + 1) : Nat) : Int) = (p.length : Int) + 1 + d.length + 1 by omega] at this
      exact this
theorem ch_outer {s : Sp} (hf : isSp f) (hfd : f + 3 ≤ 153 ∨ 156 ≤ f) (hs : RepS μ f s) (hok : spOk s) : ∀ (n : Nat) (l p : List Int) (w w' : Value) (μ' : Mem), l.length = n → (p ++ l).length = s.2.2.2.length → RepV μ' 154 (p ++ l) → okL (p ++ l) → Off 154 1 μ μ' →
    E G mX2_makeChain (Zq G mX2_makeChain (V0 (fun μ' => RepV μ' 154 (p ++ chainN n l) ∧ okL (p ++ chainN n l) ∧ Off 154 1 μ μ'))) 0 0 31 [.ref 153, .ref f, vi (p.length : Int), w', w, .retAddr 0] [] (Hp μ') := by
  have hb := hok.2.2.2.2.2.1
  intro n
  induction n with
  | zero =>
    intro l p w w' μ' h0 h1 h2 h3 h4
    obtain rfl : l = [] := List.length_eq_zero_iff.mp h0
    have hs' := hs.off h4 (by omega)
    have hl := hs'.2.2.2.1
    rw [← h1] at hl hb
    simp at hl hb
    refine E_iload_n dX2_makeChain_31 rfl ?_
    refine E_aload_n dX2_makeChain_32 rfl ?_
    refine GX2_26 hf.1 dX2_makeChain_33 ?_
    refine E_icmp_ge 108 dX2_makeChain_36 (fun h36 => ?_) (fun h36 => ?_)
    · -- 108
      refine E_vret dX2_makeChain_108 ?_
      exact ⟨rfl, _, rfl, h2, h3, h4⟩
    · -- 39
      exfalso; omega
  | succ n ih =>
    intro l p w w' μ' h0 h1 h2 h3 h4
    match l, h0, h1, h2, h3 with
    | c :: t, h0, h1, h2, h3 =>
    have hs' := hs.off h4 (by omega)
    have hl := hs'.2.2.2.1
    rw [← h1] at hl hb
    simp at hl hb
    refine E_iload_n dX2_makeChain_31 rfl ?_
    refine E_aload_n dX2_makeChain_32 rfl ?_
    refine GX2_26 hf.1 dX2_makeChain_33 ?_
    refine E_icmp_ge 108 dX2_makeChain_36 (fun h36 => ?_) (fun h36 => ?_)
    · -- 108
      exfalso; omega
    · -- 39
      refine E_iload_n dX2_makeChain_39 rfl ?_
      refine E_iconst dX2_makeChain_40 ?_
      refine E_iadd dX2_makeChain_41 ?_
      refine E_istore_n dX2_makeChain_42 ?_
      have := ch_inner (G := G) (Q := V0 (fun μ' => RepV μ' 154 (p ++ chainN (n + 1) (c :: t)) ∧ okL (p ++ chainN (n + 1) (c :: t)) ∧ Off 154 1 μ μ')) hf hfd hs hok p t [] c w μ' (by simpa using h1) (by simpa using h2) (by simpa using h3) h4 ?_
      · simp only [List.length_nil] at this
        rw [show (p.length : Int) + 1 + ((0 : Nat) : Int) = (p.length : Int) + 1 by omega] at this
        exact this
      intro w w' μ2 q1 q2 q3
      have h7 := ih (sweep c t).2 (p ++ [(sweep c t).1]) w w' μ2 (by rw [sweep_len]; simpa using h0) (by rw [← h1]; simp [sweep_len]) (by simpa using q1) (by simpa using q2) q3
      rw [show ((p ++ [(sweep c t).1]).length : Int) = (p.length : Int) + 1 by simp] at h7
      simp only [chainN]
      simp only [List.append_assoc, List.cons_append, List.nil_append] at h7
      refine E_iinc dX2_makeChain_102 rfl ?_
      refine E_goto 31 dX2_makeChain_105 ?_
      exact h7
theorem ch_copy {s : Sp} (hf : isSp f) (hfd : f + 3 ≤ 153 ∨ 156 ≤ f) (hs : RepS μ f s) (hok : spOk s) : ∀ (q p : List Fib) (μ' : Mem), p ++ q = s.2.2.2 → RepV μ' 154 (p.map Prod.fst) → Off 154 1 μ μ' →
    E G mX2_makeChain (Zq G mX2_makeChain (V0 (fun μ' => RepV μ' 154 (chain (s.2.2.2.map Prod.fst)) ∧ okL (chain (s.2.2.2.map Prod.fst)) ∧ Off 154 1 μ μ'))) 0 0 2 [.ref 153, .ref f, vi (p.length : Int), .retAddr 0, .retAddr 0, .retAddr 0] [] (Hp μ') := by
  sorry
end HOMOLOGY
