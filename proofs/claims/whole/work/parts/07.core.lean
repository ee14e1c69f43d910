/-! THE SMALL MACHINE: a judgement E over addresses counted from 0, with one rule an instruction, out of the kit's rows -/
/-- the words that hold in every frame; those of nest mates and arrays of objects are kept apart -/
def lw_ok : List Cond := lw_tbl.filter goodWord
def lw_nest : List Cond := lw_tbl.filter (fun w => match w with | .methodLinkNest .. => true | _ => false)
theorem lw_in {w : Cond} (h : w ∈ lw_tbl) (hg : goodWord w = true) : w ∈ lw_ok := List.mem_filter.mpr ⟨h, hg⟩
abbrev GT : Type := Launch × va_G × (Nat → ClassId) × Nat × Nat × Nat × (Nat → Int32) × Nat
def gL (G : GT) : Launch := G.1
def gD (G : GT) : va_G := G.2.1
def gC (G : GT) : Nat → ClassId := G.2.2.1
def gB (G : GT) : Nat := G.2.2.2.1
def gS (G : GT) : Nat := G.2.2.2.2.1
def gN (G : GT) : Nat := G.2.2.2.2.2.1
def gX (G : GT) : Nat → Int32 := G.2.2.2.2.2.2.1
def gT (G : GT) : Nat := G.2.2.2.2.2.2.2
def tabL : List Int32 := [0, 1, 2, 3, 4, 5, 1, 2, 0, 4, 5, 3, 2, 0, 1, 5, 3, 4, 3, 5, 4, 0, 2, 1, 4, 3, 5, 1, 0, 2, 5, 4, 3, 2, 1, 0]
def tabF : Nat → Int32 := fun j => tabL.getD j 0
abbrev HV : Type := List va_E
def vi (x : Int) : Value := .int (Int32.ofInt x)
def vl (x : Int) : Value := .long (Int64.ofInt x)
def mv (G : GT) : Value → Value
  | .ref r => .ref (gB G + r)
  | .retAddr k => if k = 1 then .ref (gS G) else if k = 2 then .ref (gT G) else .retAddr k
  | v => v
def mr (G : GT) (x : (Nat → Int32) ⊕ (Nat → Int64) ⊕ (Nat → UInt32) ⊕ (Nat → UInt64) ⊕ (Nat → Option Nat)) : (Nat → Int32) ⊕ (Nat → Int64) ⊕ (Nat → UInt32) ⊕ (Nat → UInt64) ⊕ (Nat → Option Nat) := match x with
  | .inl f => .inl f
  | .inr (.inl f) => .inr (.inl f)
  | .inr (.inr (.inl f)) => .inr (.inr (.inl f))
  | .inr (.inr (.inr (.inl f))) => .inr (.inr (.inr (.inl f)))
  | .inr (.inr (.inr (.inr f))) => .inr (.inr (.inr (.inr (fun i => (f i).map (fun r => gB G + r)))))
def me (G : GT) (c : va_E) : va_E := match c with
  | .inl a => .inl (gC G a.1, a.2.1, mr G a.2.2)
  | .inr o => .inr (o.1, o.2.map (mv G))
def mw (G : GT) (M : HV) : va_W := M.mapIdx (fun i c => (gB G + i, me G c))
theorem mw_get {G : GT} {M : HV} {r : Nat} {c : va_E} (h : M[r]? = some c) : (mw G M)[r]? = some (gB G + r, me G c) := by
  simp [mw, List.getElem?_mapIdx, h]
theorem mw_len (G : GT) (M : HV) : (mw G M).length = M.length := by simp [mw]
theorem mw_set {G : GT} {M : HV} {r : Nat} {c : va_E} : (mw G M).set r (gB G + r, me G c) = mw G (M.set r c) := by
  apply List.ext_getElem?
  intro i
  by_cases h : r = i
  · subst h
    by_cases hr : r < M.length
    · rw [List.getElem?_set_self (by rw [mw_len]; exact hr), mw_get (List.getElem?_set_self hr)]
    · rw [List.getElem?_eq_none (by simp [mw_len]; omega), List.getElem?_eq_none (by simp [mw_len]; omega)]
  · rw [List.getElem?_set_ne h]
    simp [mw, List.getElem?_mapIdx, List.getElem?_set_ne h]
theorem mw_push {G : GT} {M : HV} {c : va_E} : mw G (M ++ [c]) = mw G M ++ [(gB G + M.length, me G c)] := by
  simp [mw, List.mapIdx_append]
def mA (G : GT) : Nat → Prop := fun q => gB G ≤ q
theorem mw_D (G : GT) (M : HV) : va_D (mA G) (mw G M) := by
  refine ⟨fun i j p q hp hq e => ?_, fun k q hq => ?_⟩
  · simp only [mw, List.getElem?_mapIdx, Option.map_eq_some_iff] at hp hq
    obtain ⟨_, _, rfl⟩ := hp
    obtain ⟨_, _, rfl⟩ := hq
    simp at e
    exact e
  · simp only [mw, List.getElem?_mapIdx, Option.map_eq_some_iff] at hq
    obtain ⟨_, _, rfl⟩ := hq
    exact Nat.le_add_right _ _
def tyG (G : GT) : List (ClassId × FieldType) := [(gC G 0, .int), (gC G 1, .long), (gC G 2, .boolean), (gC G 3, .object "FibredSpaces$Shelf"), (gC G 4, .object "FibredSpaces$Space")]
/-- what is fixed, at the state in which a frame begins -/
def Wo (G : GT) (U : State) : Prop := va_K (gD G) vwCl (tyG G) U ∧ va_X (gS G) (gN G) (gX G) U U.heap ∧ gS G < gB G ∧ va_X (gT G) 36 tabF U U.heap ∧ gT G < gB G ∧ va_Z "FibredSpaces$Permuting" "PRODUCTS" "[I" (.ref (gT G)) (mA G) U U.heap ∧ gB G ≤ U.heap.size ∧ va_AO "FibredSpaces$Shelf" U ∧ va_AO "FibredSpaces$Space" U ∧ ∀ w ∈ lw_nest, va_Nw w U
def Wd (G : GT) (M : HV) (H : Heap) : Prop := va_P (gD G) vwCl (mw G M) H
def World (G : GT) (M : HV) (U : State) : Prop := Wo G U ∧ Wd G M U.heap ∧ U.heap.size = gB G + M.length
/-- a method: name, code, locals, answer, frames, words of locals, new cells, new slots -/
abbrev MI : Type := MethodName × ByteArray × Nat × Option FieldType × Nat × Nat × Nat × Nat
def iY (y : MI) : MethodName := y.1
def iC (y : MI) : ByteArray := y.2.1
def iL (y : MI) : Nat := y.2.2.1
def iR (y : MI) : Option FieldType := y.2.2.2.1
def iF (y : MI) : Nat := y.2.2.2.2.1
def iO (y : MI) : Nat := y.2.2.2.2.2.1
def iM (y : MI) : Nat := y.2.2.2.2.2.2.1
def iS (y : MI) : Nat := y.2.2.2.2.2.2.2
def rmI (y : MI) : Room := { frames := iF y, cells := iM y, slots := iS y, locals := iO y }
def wsI (y : MI) : List Cond := .code (iY y) (iC y) (iL y) (iR y) :: lw_ok
abbrev QT : Type := Option Value → HV → Prop
def Qm (G : GT) (y : MI) (Q : QT) : Array Value → State → Outcome → State → Prop := fun _ st oc t =>
  (∃ (v : Option Value) (M' : HV), oc = .returned (v.map (mv G)) ∧ Q v M' ∧ st.heap.size + iM y = gB G + M'.length ∧ World G M' t) ∧ va_F (mA G) st t
def Ctr (G : GT) (y : MI) (a : List Value) (M : HV) (Q : QT) : Prop := Met (gL G) (iY y) (wsI y) (rmI y) (va_Pc (a.map (mv G)) (World G M)) (Qm G y Q) (iM y) (iS y) (mA G)
def Fr (G : GT) (y : MI) (k : Nat) (p : Program) (s : State) (m : MethodId) (args : Array Value) (meth : Method) (c : Code) (H : Heap) (locs : List Loc) (M : HV) : Prop :=
  p.tables.exec = Jvm.exec ∧ c.code = iC y ∧ c.maxLocals = iL y ∧ meth.sig.returnType = iR y ∧ meth.locks = false ∧ meth.name = (iY y).name ∧ s.vm.findClass (iY y).cls = some m.cls ∧ (∀ w ∈ lw_ok, w.before args s = true) ∧
  Wo G s ∧ Wd G M H ∧ va_S (mA G) s.heap H locs ∧ s.heap.size + k = gB G + M.length
def Lo (G : GT) (n : Nat) (arr : Array Slot) (ls : List Value) : Prop := arr.size = n ∧ lv_wf arr ∧ ∀ (i : Nat) (v : Value), ls[i]? = some v → v ≠ .retAddr 0 → arr[i]? = some (.val (mv G v))
abbrev ZT : Type := List Frame → Array Value → State → State → Prop
def E (G : GT) (y : MI) (Z : ZT) (k n pc : Nat) (ls st : List Value) (M : HV) : Prop :=
  ∀ (p : Program) (e : Env) (s : State) (m : MethodId) (args : Array Value) (below : List Frame) (meth : Method) (c : Code) (H : Heap) (locs : List Loc) (arr : Array Slot),
    Fr G y k p s m args meth c H locs M → Lo G (iL y) arr ls → W p (gL G) e (rmI y) s m args below meth c H locs k n (Z below args s) (F0 m pc arr (st.map (mv G)))
def Zq (G : GT) (y : MI) (Q : QT) : ZT := fun below args s => MQ below (Qm G y Q) args s (iM y) (iS y) (mA G)
theorem Fr.size {G : GT} {y : MI} {k n : Nat} {p : Program} {l : Launch} {e : Env} {R : Room} {s : State} {m : MethodId} {args : Array Value} {below : List Frame} {meth : Method} {c : Code} {T : State} {locs : List Loc} {M : HV}
    (F : Fr G y k p s m args meth c T.heap locs M) (X : Stand p l e R s m args below meth c T locs k n) : T.heap.size = gB G + M.length := by
  obtain ⟨-, -, -, -, -, -, -, -, hW, hP, hS, hz⟩ := F
  have h1 := X.heapSize
  have h2 : gB G + M.length ≤ T.heap.size := by
    by_cases h : M.length = 0
    · have h3 := hS.1
      have h4 : gB G ≤ s.heap.size := hW.2.2.2.2.2.2.1
      omega
    · obtain ⟨c, hc⟩ : ∃ c, M[M.length - 1]? = some c := ⟨_, List.getElem?_eq_getElem (by omega)⟩
      have h5 := (hP _ _ (mw_get hc)).lt
      have h5 : gB G + (M.length - 1) < T.heap.size := h5
      omega
  omega
/-! locals -/
def clr : Value → Value
  | .long _ => .retAddr 0
  | .double _ => .retAddr 0
  | v => v
def s1 : List Value → Nat → Value → List Value
  | [], _, _ => []
  | _ :: t, 0, v => v :: t
  | a :: t, 1, v => clr a :: s1 t 0 v
  | a :: t, i + 2, v => a :: s1 t (i + 1) v
def s2 : List Value → Nat → Value → List Value
  | [], _, _ => []
  | [_], 0, v => [v]
  | _ :: _ :: t, 0, v => v :: .retAddr 0 :: t
  | a :: t, 1, v => clr a :: s2 t 0 v
  | a :: t, i + 2, v => a :: s2 t (i + 1) v
theorem s1_get : ∀ (ls : List Value) (i : Nat) (v : Value) (j : Nat) (w : Value), (s1 ls i v)[j]? = some w → (j = i ∧ w = v) ∨ (j ≠ i ∧ j + 1 ≠ i ∧ ls[j]? = some w) ∨ (j + 1 = i ∧ ∃ u, ls[j]? = some u ∧ w = clr u)
  | [], _, _, _, _, h => by simp [s1] at h
  | a :: t, 0, v, 0, w, h => by simp [s1] at h; exact Or.inl ⟨rfl, h.symm⟩
  | a :: t, 0, v, j + 1, w, h => by simp [s1] at h; exact Or.inr (Or.inl ⟨by omega, by omega, by simpa using h⟩)
  | a :: t, 1, v, 0, w, h => by simp [s1] at h; exact Or.inr (Or.inr ⟨rfl, a, by simp, h.symm⟩)
  | a :: t, 1, v, j + 1, w, h => by
    simp only [s1, List.getElem?_cons_succ] at h
    rcases s1_get t 0 v j w h with ⟨h1, h2⟩ | ⟨h1, h2, h3⟩ | ⟨h1, u, h2, h3⟩
    · exact Or.inl ⟨by omega, h2⟩
    · exact Or.inr (Or.inl ⟨by omega, by omega, by simpa using h3⟩)
    · omega
  | a :: t, i + 2, v, 0, w, h => by simp [s1] at h; exact Or.inr (Or.inl ⟨by omega, by omega, by simpa using h⟩)
  | a :: t, i + 2, v, j + 1, w, h => by
    simp only [s1, List.getElem?_cons_succ] at h
    rcases s1_get t (i + 1) v j w h with ⟨h1, h2⟩ | ⟨h1, h2, h3⟩ | ⟨h1, u, h2, h3⟩
    · exact Or.inl ⟨by omega, h2⟩
    · exact Or.inr (Or.inl ⟨by omega, by omega, by simpa using h3⟩)
    · exact Or.inr (Or.inr ⟨by omega, u, by simpa using h2, h3⟩)
theorem s2_get : ∀ (ls : List Value) (i : Nat) (v : Value) (j : Nat) (w : Value), (s2 ls i v)[j]? = some w → (j = i ∧ w = v) ∨ (j = i + 1 ∧ w = .retAddr 0) ∨ (j ≠ i ∧ j ≠ i + 1 ∧ j + 1 ≠ i ∧ ls[j]? = some w) ∨ (j + 1 = i ∧ ∃ u, ls[j]? = some u ∧ w = clr u)
  | [], _, _, _, _, h => by simp [s2] at h
  | [a], 0, v, 0, w, h => by simp [s2] at h; exact Or.inl ⟨rfl, h.symm⟩
  | [a], 0, v, j + 1, w, h => by simp [s2] at h
  | a :: b :: t, 0, v, 0, w, h => by simp [s2] at h; exact Or.inl ⟨rfl, h.symm⟩
  | a :: b :: t, 0, v, 1, w, h => by simp [s2] at h; exact Or.inr (Or.inl ⟨rfl, h.symm⟩)
  | a :: b :: t, 0, v, j + 2, w, h => by simp [s2] at h; exact Or.inr (Or.inr (Or.inl ⟨by omega, by omega, by omega, by simpa using h⟩))
  | a :: t, 1, v, 0, w, h => by simp [s2] at h; exact Or.inr (Or.inr (Or.inr ⟨rfl, a, by simp, h.symm⟩))
  | a :: t, 1, v, j + 1, w, h => by
    simp only [s2, List.getElem?_cons_succ] at h
    rcases s2_get t 0 v j w h with ⟨h1, h2⟩ | ⟨h1, h2⟩ | ⟨h1, h2, h4, h3⟩ | ⟨h1, u, h2, h3⟩
    · exact Or.inl ⟨by omega, h2⟩
    · exact Or.inr (Or.inl ⟨by omega, h2⟩)
    · exact Or.inr (Or.inr (Or.inl ⟨by omega, by omega, by omega, by simpa using h3⟩))
    · omega
  | a :: t, i + 2, v, 0, w, h => by simp [s2] at h; exact Or.inr (Or.inr (Or.inl ⟨by omega, by omega, by omega, by simpa using h⟩))
  | a :: t, i + 2, v, j + 1, w, h => by
    simp only [s2, List.getElem?_cons_succ] at h
    rcases s2_get t (i + 1) v j w h with ⟨h1, h2⟩ | ⟨h1, h2⟩ | ⟨h1, h2, h4, h3⟩ | ⟨h1, u, h2, h3⟩
    · exact Or.inl ⟨by omega, h2⟩
    · exact Or.inr (Or.inl ⟨by omega, h2⟩)
    · exact Or.inr (Or.inr (Or.inl ⟨by omega, by omega, by omega, by simpa using h3⟩))
    · exact Or.inr (Or.inr (Or.inr ⟨by omega, u, by simpa using h2, h3⟩))
def loL (G : GT) (ls : List Value) : List (Nat × Value) := (List.range ls.length).filterMap fun i => match ls[i]? with
  | none => none
  | some v => if v = .retAddr 0 then none else some (i, mv G v)
theorem loL_mem {G : GT} {ls : List Value} {i : Nat} {v : Value} (h : ls[i]? = some v) (hv : v ≠ .retAddr 0) : (i, mv G v) ∈ loL G ls := by
  refine List.mem_filterMap.mpr ⟨i, List.mem_range.mpr (List.getElem?_eq_some_iff.mp h).1, ?_⟩
  simp [h, hv]
theorem Lo.has {G : GT} {n : Nat} {arr : Array Slot} {ls : List Value} (h : Lo G n arr ls) : lv_has arr n (loL G ls) := by
  refine ⟨h.1, h.2.1, fun q hq => ?_⟩
  obtain ⟨i, -, hi⟩ := List.mem_filterMap.mp hq
  split at hi
  · cases hi
  · next v hv =>
    split at hi
    · cases hi
    · next hne =>
      obtain rfl := Option.some.inj hi
      exact h.2.2 i v hv hne
theorem clr_cat {u w : Value} (h : w = clr u) (hw : w ≠ .retAddr 0) : w = u ∧ u.category ≠ 2 := by
  cases u <;> simp [clr] at h <;> first | exact absurd h hw | exact ⟨h, by simp [Value.category]⟩
theorem mv_cat (G : GT) (u : Value) : (mv G u).category = u.category := by
  cases u with
  | retAddr k =>
    by_cases h1 : k = 1
    · simp [mv, h1, Value.category]
    · by_cases h2 : k = 2 <;> simp [mv, h1, h2, Value.category]
  | _ => rfl
theorem mv_ne0 {G : GT} {u : Value} (h : u.category = 2) : u ≠ .retAddr 0 := by rintro rfl; cases h
theorem Lo.st1 {G : GT} {n i : Nat} {arr arr' : Array Slot} {ls : List Value} {v v' : Value} (hv : v' = mv G v) (h : Lo G n arr ls)
    (h' : lv_has arr' n ((i, v') :: (loL G ls).filter (fun q => !(q.1 == i) && !(q.1 + 1 == i && q.2.category == 2)))) : Lo G n arr' (s1 ls i v) := by
  refine ⟨h'.1, h'.2.1, fun j w hj hw => ?_⟩
  rcases s1_get ls i v j w hj with ⟨rfl, rfl⟩ | ⟨h1, h2, h3⟩ | ⟨h1, u, h2, h3⟩
  · rw [← hv]; exact h'.2.2 _ List.mem_cons_self
  · refine h'.2.2 (j, mv G w) (List.mem_cons_of_mem _ (List.mem_filter.mpr ⟨loL_mem h3 hw, ?_⟩))
    simp [h1, h2]
  · obtain ⟨rfl, hc⟩ := clr_cat h3 hw
    refine h'.2.2 (j, mv G w) (List.mem_cons_of_mem _ (List.mem_filter.mpr ⟨loL_mem h2 hw, ?_⟩))
    simp [mv_cat, hc]
    omega
theorem Lo.st2 {G : GT} {n i : Nat} {arr arr' : Array Slot} {ls : List Value} {v v' : Value} (hv : v' = mv G v) (h : Lo G n arr ls)
    (h' : lv_has arr' n ((i, v') :: (loL G ls).filter (fun q => !(q.1 == i) && (!(q.1 == i + 1) && !(q.1 + 1 == i && q.2.category == 2))))) : Lo G n arr' (s2 ls i v) := by
  refine ⟨h'.1, h'.2.1, fun j w hj hw => ?_⟩
  rcases s2_get ls i v j w hj with ⟨rfl, rfl⟩ | ⟨-, h2⟩ | ⟨h1, h4, h2, h3⟩ | ⟨h1, u, h2, h3⟩
  · rw [← hv]; exact h'.2.2 _ List.mem_cons_self
  · exact absurd h2 hw
  · refine h'.2.2 (j, mv G w) (List.mem_cons_of_mem _ (List.mem_filter.mpr ⟨loL_mem h3 hw, ?_⟩))
    simp [h1, h2, h4]
  · obtain ⟨rfl, hc⟩ := clr_cat h3 hw
    refine h'.2.2 (j, mv G w) (List.mem_cons_of_mem _ (List.mem_filter.mpr ⟨loL_mem h2 hw, ?_⟩))
    simp [mv_cat, hc]
    omega
def enA : List Value → List Value
  | [] => []
  | .long x :: t => .long x :: .retAddr 0 :: enA t
  | .double x :: t => .double x :: .retAddr 0 :: enA t
  | v :: t => v :: enA t
def en (a : List Value) (n : Nat) : List Value := enA a ++ List.replicate (n - (enA a).length) (.retAddr 0)
theorem en_mem {G : GT} : ∀ (a : List Value) (j i : Nat) (v : Value), (enA a)[i]? = some v → v ≠ .retAddr 0 → (j + i, mv G v) ∈ lv_args j (a.map (mv G))
  | [], j, i, v, h, hv => by simp [enA] at h
  | w :: t, j, i, v, h, hv => by
    by_cases hc : w.category = 2
    · have e : enA (w :: t) = w :: .retAddr 0 :: enA t := by cases w <;> first | rfl | (simp [Value.category] at hc)
      rw [e] at h
      match i, h with
      | 0, h => simp at h; subst h; simp [lv_args]
      | 1, h => simp at h; exact absurd h.symm hv
      | i + 2, h =>
        simp at h
        have h2 := en_mem (G := G) t (j + 2) i v h hv
        simp only [List.map_cons, lv_args, mv_cat, hc, if_true]
        refine List.mem_cons_of_mem _ ?_
        rw [show j + (i + 2) = j + 2 + i by omega]; exact h2
    · have e : enA (w :: t) = w :: enA t := by cases w <;> first | rfl | (simp [Value.category] at hc)
      rw [e] at h
      match i, h with
      | 0, h => simp at h; subst h; simp [lv_args]
      | i + 1, h =>
        simp at h
        have h2 := en_mem (G := G) t (j + 1) i v h hv
        simp only [List.map_cons, lv_args, mv_cat, hc, if_false]
        refine List.mem_cons_of_mem _ ?_
        rw [show j + (i + 1) = j + 1 + i by omega]; exact h2
theorem Lo_en {G : GT} {n : Nat} {arr : Array Slot} {a : List Value} (h : lv_has arr n (lv_args 0 (a.map (mv G)))) : Lo G n arr (en a n) := by
  refine ⟨h.1, h.2.1, fun i v hi hv => ?_⟩
  unfold en at hi
  by_cases hl : i < (enA a).length
  · rw [List.getElem?_append_left hl] at hi
    have := h.2.2 _ (en_mem (G := G) a 0 i v hi hv)
    simpa using this
  · rw [List.getElem?_append_right (by omega)] at hi
    have := List.mem_of_getElem? hi
    exact absurd (List.eq_of_mem_replicate this) hv
