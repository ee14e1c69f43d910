/-! what is meant: spaces, pairs put to their places -/
abbrev Fib : Type := Int × Int
abbrev Sp : Type := Int × Int × Int × List Fib
def gtP (x y : Fib) : Bool := decide (y.1 < x.1) || (decide (y.1 = x.1) && decide (y.2 < x.2))
def insR (x : Fib) : List Fib → List Fib
  | [] => [x]
  | y :: t => if gtP y x then y :: insR x t else x :: y :: t
def ins (x : Fib) (l : List Fib) : List Fib := (insR x l.reverse).reverse
theorem insR_app (x : Fib) : ∀ (q p : List Fib), (∀ y ∈ q, gtP y x = true) → (∀ y t, p = y :: t → gtP y x = false) → insR x (q ++ p) = q ++ x :: p
  | [], [], _, _ => rfl
  | [], y :: t, _, h => by simp [insR, h y t rfl]
  | y :: q, p, hq, hp => by
    rw [List.cons_append, insR, if_pos (hq y List.mem_cons_self), insR_app x q p (fun z hz => hq z (List.mem_cons_of_mem _ hz)) hp]; rfl
theorem ins_app {x : Fib} {p q : List Fib} (hq : ∀ y ∈ q, gtP y x = true) (hp : ∀ y t, p = t ++ [y] → gtP y x = false) : ins x (p ++ q) = p ++ x :: q := by
  unfold ins
  rw [List.reverse_append, insR_app x q.reverse p.reverse (fun y hy => hq y (List.mem_reverse.mp hy)) ?_]
  · simp
  · intro y t h
    refine hp y t.reverse ?_
    have := congrArg List.reverse h
    simpa using this
theorem insR_len (x : Fib) : ∀ l, (insR x l).length = l.length + 1
  | [] => rfl
  | y :: t => by
    unfold insR
    split
    · simp [insR_len x t]
    · simp
theorem ins_len (x : Fib) (l : List Fib) : (ins x l).length = l.length + 1 := by simp [ins, insR_len]
theorem insR_mem {x z : Fib} : ∀ {l : List Fib}, z ∈ insR x l → z = x ∨ z ∈ l
  | [], h => by simp [insR] at h; exact Or.inl h
  | y :: t, h => by
    unfold insR at h
    split at h
    · rcases List.mem_cons.mp h with rfl | h
      · exact Or.inr List.mem_cons_self
      · rcases insR_mem h with h | h
        · exact Or.inl h
        · exact Or.inr (List.mem_cons_of_mem _ h)
    · rcases List.mem_cons.mp h with rfl | h
      · exact Or.inl rfl
      · exact Or.inr h
theorem ins_mem {x z : Fib} {l : List Fib} (h : z ∈ ins x l) : z = x ∨ z ∈ l := by
  rcases insR_mem (List.mem_reverse.mp h) with h | h
  · exact Or.inl h
  · exact Or.inr (List.mem_reverse.mp h)
def fibs (d : Sp) : List Fib := d.2.2.2
/-- a pair is put to its place, made normal -/
def put (d : Sp) (a b : Int) : Sp := (d.1, d.2.1, d.2.2.1 + b / a, if 1 < a then ins (a, b % a) d.2.2.2 else d.2.2.2)
def putAll (d : Sp) (l : List Fib) (f : Int) : Sp := l.foldl (fun e x => put e x.1 (x.2 * f)) d
def fibOk (x : Fib) : Prop := 2 ≤ x.1 ∧ x.1 ≤ 30 ∧ 1 ≤ x.2 ∧ x.2 < x.1 ∧ Int.gcd x.1 x.2 = 1
def spOk (s : Sp) : Prop := (s.1 = 0 ∨ s.1 = 1) ∧ s.1 ≤ s.2.1 ∧ s.2.1 ≤ 4 ∧ -999 ≤ s.2.2.1 ∧ s.2.2.1 ≤ 999 ∧ s.2.2.2.length ≤ 6 ∧ ∀ x ∈ s.2.2.2, fibOk x
/-- a draft: its kind and genus may be any, its shift and its number of pairs are no more than loops can make -/
def drOk (s : Sp) (n : Nat) : Prop := -(100000 * (n + 1) : Int) ≤ s.2.2.1 ∧ s.2.2.1 ≤ 100000 * (n + 1) ∧ s.2.2.2.length ≤ n
/-- rows of a heap hold a list of pairs -/
def RepL (μ : Mem) (A B : Nat) (l : List Fib) : Prop := ∀ (k : Nat) (x : Fib), l[k]? = some x → μ A k = x.1 ∧ μ B k = x.2
def RepS (μ : Mem) (r : Nat) (s : Sp) : Prop := μ r 0 = s.1 ∧ μ r 1 = s.2.1 ∧ μ r 2 = s.2.2.1 ∧ μ r 3 = s.2.2.2.length ∧ μ r 4 = 0 ∧ RepL μ (r + 1) (r + 2) s.2.2.2
def RepD (μ : Mem) (r : Nat) (s : Sp) : Prop := μ r 0 = s.1 ∧ μ r 1 = s.2.1 ∧ μ r 2 = s.2.2.1 ∧ (s.2.2.2.length ≤ 6 → μ r 3 = s.2.2.2.length ∧ μ r 4 = 0 ∧ RepL μ (r + 1) (r + 2) s.2.2.2) ∧ (6 < s.2.2.2.length → μ r 3 = 6 ∧ μ r 4 = 1)
def isSp (r : Nat) : Prop := SK[r]? = some (17, 7, [r + 1, r + 2]) ∧ SK[r + 1]? = some (0, 6, []) ∧ SK[r + 2]? = some (0, 6, [])
def isSh (r : Nat) : Prop := SK[r]? = some (15, 1, [r + 1]) ∧ SK[r + 1]? = some (4, 6, [r + 2, r + 5, r + 8, r + 11, r + 14, r + 17]) ∧ ∀ i : Nat, i < 6 → isSp (r + 2 + 3 * i)
/-- nothing but a block of cells has changed -/
def Off (lo n : Nat) (μ μ' : Mem) : Prop := ∀ a : Nat, (a < lo ∨ lo + n ≤ a) → μ' a = μ a
theorem Off.rf {lo n : Nat} {μ : Mem} : Off lo n μ μ := fun _ _ => rfl
theorem Off.tr {lo n : Nat} {μ μ' μ'' : Mem} (h : Off lo n μ μ') (h' : Off lo n μ' μ'') : Off lo n μ μ'' := fun a q => (h' a q).trans (h a q)
theorem Off.up {lo n r : Nat} {i x : Int} {μ μ' : Mem} (h : Off lo n μ μ') (h1 : lo ≤ r) (h2 : r < lo + n) : Off lo n μ (up μ' r i x) := fun a q => (up_ne a (by omega)).trans (h a q)
theorem Off.wide {lo n lo' n' : Nat} {μ μ' : Mem} (h : Off lo n μ μ') (h1 : lo' ≤ lo) (h2 : lo + n ≤ lo' + n') : Off lo' n' μ μ' := fun a q => h a (by omega)
theorem RepL.kept {μ μ' : Mem} {A B : Nat} {l : List Fib} (h : RepL μ A B l) (hA : μ' A = μ A) (hB : μ' B = μ B) : RepL μ' A B l := fun k x hx => by rw [hA, hB]; exact h k x hx
theorem RepS.kept {μ μ' : Mem} {r : Nat} {s : Sp} (h : RepS μ r s) (h0 : μ' r = μ r) (hA : μ' (r + 1) = μ (r + 1)) (hB : μ' (r + 2) = μ (r + 2)) : RepS μ' r s := by
  obtain ⟨a1, a2, a3, a4, a5, a6⟩ := h
  exact ⟨by rw [h0]; exact a1, by rw [h0]; exact a2, by rw [h0]; exact a3, by rw [h0]; exact a4, by rw [h0]; exact a5, a6.kept hA hB⟩
theorem RepS.off {μ μ' : Mem} {r lo n : Nat} {s : Sp} (h : RepS μ r s) (ho : Off lo n μ μ') (hr : r + 3 ≤ lo ∨ lo + n ≤ r) : RepS μ' r s := h.kept (ho _ (by omega)) (ho _ (by omega)) (ho _ (by omega))
theorem RepS.d {μ : Mem} {r : Nat} {s : Sp} (h : RepS μ r s) (hl : s.2.2.2.length ≤ 6) : RepD μ r s := ⟨h.1, h.2.1, h.2.2.1, fun _ => ⟨h.2.2.2.1, h.2.2.2.2.1, h.2.2.2.2.2⟩, fun q => absurd q (by omega)⟩
theorem RepD.s {μ : Mem} {r : Nat} {s : Sp} (h : RepD μ r s) (hl : s.2.2.2.length ≤ 6) : RepS μ r s := ⟨h.1, h.2.1, h.2.2.1, (h.2.2.2.1 hl).1, (h.2.2.2.1 hl).2.1, (h.2.2.2.1 hl).2.2⟩
theorem isSp_lt {r : Nat} (h : isSp r) : r + 2 < 219 := by
  have h1 := (List.getElem?_eq_some_iff.mp h.2.2).1
  rw [SK_eq] at h1
  exact h1
/-- inserting: p stands, q has gone one place on -/
def InsI (μ : Mem) (A B : Nat) (p q : List Fib) : Prop := (∀ (k : Nat) (y : Fib), p[k]? = some y → μ A k = y.1 ∧ μ B k = y.2) ∧ ∀ (k : Nat) (y : Fib), q[k]? = some y → μ A ((p.length : Int) + 1 + k) = y.1 ∧ μ B ((p.length : Int) + 1 + k) = y.2
theorem InsI.of {μ : Mem} {A B : Nat} {l : List Fib} (h : RepL μ A B l) : InsI μ A B l [] := ⟨h, fun k y hy => by simp at hy⟩
theorem InsI.last {μ : Mem} {A B : Nat} {p q : List Fib} {y : Fib} (h : InsI μ A B (p ++ [y]) q) : μ A p.length = y.1 ∧ μ B p.length = y.2 := h.1 p.length y (by simp)
theorem InsI.shift {μ : Mem} {A B : Nat} {p q : List Fib} {y : Fib} (hAB : A ≠ B) (h : InsI μ A B (p ++ [y]) q) : InsI (up (up μ A ((p.length : Int) + 1) y.1) B ((p.length : Int) + 1) y.2) A B p (y :: q) := by
  refine ⟨fun k z hz => ?_, fun k z hz => ?_⟩
  · have hk : k < p.length := (List.getElem?_eq_some_iff.mp hz).1
    have := h.1 k z (by rw [List.getElem?_append_left hk]; exact hz)
    simp only [up]
    rw [if_neg (by omega), if_neg (by omega), if_neg (by omega), if_neg (by omega)]
    exact this
  · match k, hz with
    | 0, hz =>
      simp at hz
      subst hz
      simp [up, hAB, Ne.symm hAB]
    | k + 1, hz =>
      simp at hz
      have := h.2 k z hz
      simp only [List.length_append, List.length_cons, List.length_nil] at this
      simp only [up]
      rw [if_neg (by omega), if_neg (by omega), if_neg (by omega), if_neg (by omega)]
      rw [show (p.length : Int) + 1 + ((k + 1 : Nat) : Int) = ((p.length + (0 + 1) : Nat) : Int) + 1 + (k : Int) by omega]
      exact this
theorem InsI.done {μ : Mem} {A B : Nat} {p q : List Fib} (x : Fib) (hAB : A ≠ B) (h : InsI μ A B p q) : RepL (up (up μ A (p.length : Int) x.1) B (p.length : Int) x.2) A B (p ++ x :: q) := by
  intro k z hz
  by_cases h1 : k < p.length
  · rw [List.getElem?_append_left h1] at hz
    have := h.1 k z hz
    simp only [up]
    rw [if_neg (by omega), if_neg (by omega), if_neg (by omega), if_neg (by omega)]
    exact this
  · rw [List.getElem?_append_right (by omega)] at hz
    obtain ⟨j, hj⟩ : ∃ j, k = p.length + j := ⟨k - p.length, by omega⟩
    subst hj
    rw [show p.length + j - p.length = j by omega] at hz
    match j, hz with
    | 0, hz =>
      simp at hz
      subst hz
      simp [up, hAB, Ne.symm hAB]
    | j + 1, hz =>
      simp at hz
      have := h.2 j z hz
      simp only [up]
      rw [if_neg (by omega), if_neg (by omega), if_neg (by omega), if_neg (by omega)]
      rw [show ((p.length + (j + 1) : Nat) : Int) = (p.length : Int) + 1 + (j : Int) by omega]
      exact this
def smF (x : Fib) : Prop := 0 ≤ x.1 ∧ x.1 ≤ 1000 ∧ 0 ≤ x.2 ∧ x.2 ≤ 1000
theorem smF_of {x : Fib} (h : fibOk x) : smF x := by obtain ⟨h1, h2, h3, h4, -⟩ := h; exact ⟨by omega, by omega, by omega, by omega⟩
theorem gtP_1 {x y : Fib} (h : y.1 < x.1) : gtP x y = true := by simp [gtP, h]
theorem gtP_2 {x y : Fib} (h : y.1 = x.1) (h2 : y.2 < x.2) : gtP x y = true := by simp [gtP, h, h2]
theorem gtP_0 {x y : Fib} (h : ¬ y.1 < x.1) (h2 : ¬ (y.1 = x.1 ∧ y.2 < x.2)) : gtP x y = false := by
  simp only [gtP, Bool.or_eq_false_iff, Bool.and_eq_false_iff, decide_eq_false_iff_not]
  refine ⟨h, ?_⟩
  by_cases h3 : y.1 = x.1
  · exact Or.inr (fun h4 => h2 ⟨h3, h4⟩)
  · exact Or.inl h3
theorem list_end {α : Type} (l : List α) : l = [] ∨ ∃ p y, l = p ++ [y] := by
  rcases List.eq_nil_or_concat l with h | ⟨p, y, h⟩
  · exact Or.inl h
  · exact Or.inr ⟨p, y, by simpa using h⟩
/-- posts: no answer, or an answer; the heap behind it as a memory with P -/
def V0 (P : Mem → Prop) : QT := fun v M' => v = none ∧ ∃ μ', M' = Hp μ' ∧ P μ'
def V1 (x : Value) (P : Mem → Prop) : QT := fun v M' => v = some x ∧ ∃ μ', M' = Hp μ' ∧ P μ'
theorem E_mono {G : GT} {y : MI} {Q Q' : QT} {k n pc : Nat} {ls st : List Value} {M : HV} (hq : ∀ v M, Q v M → Q' v M) (h : E G y (Zq G y Q) k n pc ls st M) : E G y (Zq G y Q') k n pc ls st M := by
  intro p e s m args below meth c H locs arr F hl T hT X
  obtain ⟨t, a1, o, b1, b2, ⟨⟨v, M', e1, e2, e3⟩, e4⟩, b4⟩ := h p e s m args below meth c H locs arr F hl T hT X
  exact ⟨t, a1, o, b1, b2, ⟨⟨v, M', e1, hq v M' e2, e3⟩, e4⟩, b4⟩
theorem Ctr.mono {G : GT} {y : MI} {a : List Value} {M : HV} {Q Q' : QT} (hq : ∀ v M, Q v M → Q' v M) (h : Ctr G y a M Q) : Ctr G y a M Q' := by
  intro p e ha hc hk s m args below hf happ hP hK
  obtain ⟨t, o, b0, b1, b2, ⟨⟨v, M', e1, e2, e3⟩, e4⟩, b4⟩ := h p e ha hc hk s m args below hf happ hP hK
  exact ⟨t, o, b0, b1, b2, ⟨⟨v, M', e1, hq v M' e2, e3⟩, e4⟩, b4⟩
section CALL3
variable {G : GT} {y : MI} {Z : ZT} {k n pc : Nat} {ls st : List Value} {M : HV}
theorem E_callVV {y' : MI} {idx r na ci : Nat} {a stk fs : List Value} {P : Mem → Prop} (hd : decode (iC y) pc = .ok (.invokevirtual idx, 3)) (hL : LV (iY y).cls idx y' na ci) (hM : M[r]? = some (.inr (ci, fs))) (hC : Ctr G y' (.ref r :: a) M (V0 P))
    (h : ∀ μ', P μ' → E G y Z k n (pc + 3) ls st (Hp μ')) (hs : stk = a.reverse ++ .ref r :: st := by rfl) (hna : a.length = na := by rfl) (hR : LR y y' := by exact ⟨Nat.le_of_ble_eq_true rfl, Nat.le_of_ble_eq_true rfl⟩) (hw : (st.map fun v => v.category).sum ≤ 8 := by exact Nat.le_of_ble_eq_true rfl) (h1 : iM y' = 0 := by rfl) (h2 : iS y' = 0 := by rfl) (h3 : k ≤ iM y := by decide) (h4 : n ≤ iS y := by decide) : E G y Z k n pc ls stk M :=
  E_callVP hd hL hM hC (by rintro v M' ⟨rfl, μ', rfl, hP⟩; exact h μ' hP) hs hna hR hw h1 h2 h3 h4
theorem E_callVW {y' : MI} {idx r na ci : Nat} {a stk fs : List Value} {x : Value} {P : Mem → Prop} (hd : decode (iC y) pc = .ok (.invokevirtual idx, 3)) (hL : LV (iY y).cls idx y' na ci) (hM : M[r]? = some (.inr (ci, fs))) (hC : Ctr G y' (.ref r :: a) M (V1 x P))
    (h : ∀ μ', P μ' → E G y Z k n (pc + 3) ls (x :: st) (Hp μ')) (hs : stk = a.reverse ++ .ref r :: st := by rfl) (hna : a.length = na := by rfl) (hR : LR y y' := by exact ⟨Nat.le_of_ble_eq_true rfl, Nat.le_of_ble_eq_true rfl⟩) (hw : (st.map fun v => v.category).sum ≤ 8 := by exact Nat.le_of_ble_eq_true rfl) (h1 : iM y' = 0 := by rfl) (h2 : iS y' = 0 := by rfl) (h3 : k ≤ iM y := by decide) (h4 : n ≤ iS y := by decide) : E G y Z k n pc ls stk M :=
  E_callVP hd hL hM hC (by rintro v M' ⟨rfl, μ', rfl, hP⟩; exact h μ' hP) hs hna hR hw h1 h2 h3 h4
theorem E_callSV {y' : MI} {idx na : Nat} {a stk : List Value} {P : Mem → Prop} (hd : decode (iC y) pc = .ok (.invokestatic idx, 3)) (hL : LSt (iY y).cls idx y' na) (hC : Ctr G y' a M (V0 P))
    (h : ∀ μ', P μ' → E G y Z k n (pc + 3) ls st (Hp μ')) (hs : stk = a.reverse ++ st := by rfl) (hna : a.length = na := by rfl) (hR : LR y y' := by exact ⟨Nat.le_of_ble_eq_true rfl, Nat.le_of_ble_eq_true rfl⟩) (hw : (st.map fun v => v.category).sum ≤ 8 := by exact Nat.le_of_ble_eq_true rfl) (h1 : iM y' = 0 := by rfl) (h2 : iS y' = 0 := by rfl) (h3 : k ≤ iM y := by decide) (h4 : n ≤ iS y := by decide) : E G y Z k n pc ls stk M :=
  E_callSP hd hL hC (by rintro v M' ⟨rfl, μ', rfl, hP⟩; exact h μ' hP) hs hna hR hw h1 h2 h3 h4
end CALL3
section UPS
variable {μ : Mem} {r : Nat} {i x : Int}
theorem up_n1 : up μ (r + 1) i x r = μ r := up_ne r (by omega)
theorem up_n2 : up μ (r + 2) i x r = μ r := up_ne r (by omega)
theorem up_12 : up μ (r + 1) i x (r + 2) = μ (r + 2) := up_ne _ (by omega)
theorem up_21 : up μ (r + 2) i x (r + 1) = μ (r + 1) := up_ne _ (by omega)
theorem up_01 : up μ r i x (r + 1) = μ (r + 1) := up_ne _ (by omega)
theorem up_02 : up μ r i x (r + 2) = μ (r + 2) := up_ne _ (by omega)
theorem ins_end {μ' : Mem} {A B : Nat} {x : Fib} {l p q : List Fib} (hAB : A ≠ B) (h4 : InsI μ' A B p q) (h3 : ∀ y ∈ q, gtP y x = true) (hp : ∀ y t, p = t ++ [y] → gtP y x = false) (h2 : p ++ q = l) : RepL (up (up μ' A (p.length : Int) x.1) B (p.length : Int) x.2) A B (ins x l) := by
  have hi : ins x l = p ++ x :: q := by rw [← h2]; exact ins_app h3 hp
  rw [hi]; exact h4.done x hAB
end UPS
