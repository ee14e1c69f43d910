theorem lw_good : ∀ w ∈ lw_ok, goodWord w = true := by
  intro w hw
  exact (List.mem_filter.mp hw).2
theorem wsI_good {y : MI} (h : Cond.code (iY y) (iC y) (iL y) (iR y) ∈ lw_ok) : GoodIn lw_ok (wsI y) := by
  intro w hw
  have hm : w ∈ lw_ok := by
    rcases List.mem_cons.mp hw with rfl | hw
    · exact h
    · exact hw
  exact ⟨hm, good_of_word (lw_good w hm)⟩
theorem World.blind {G : GT} {M : HV} {a : List Value} : FrameBlind (va_Pc a (World G M)) := by
  rintro v U g mk ⟨h1, ⟨h2, h3, h4⟩⟩
  refine ⟨h1, ?_, h3, h4⟩
  obtain ⟨a1, a2, a3, a4, a5, a6, a7, a8, a9, a10⟩ := h2
  have hv : U.vm.Alike (U.calling g mk v).vm := Vm.Alike.refl U.vm
  refine ⟨va_K.moved hv a1, va_X.moved hv a2, a3, va_X.moved hv a4, a5, va_Z.moved hv a6, a7, va_AO.moved hv a8, va_AO.moved hv a9, fun w hw => ?_⟩
  have hm := (List.mem_filter.mp hw).2
  cases w with
  | methodLinkNest a i x h => exact va_Nw.same rfl rfl (a10 _ hw)
  | _ => simp at hm
section CALLS
variable {G : GT} {y : MI} {Z : ZT} {k n pc : Nat} {ls st : List Value} {M : HV}
theorem new_addr {G : GT} {M : HV} {p : Program} {l : Launch} {e : Env} {R : Room} {s : State} {m : MethodId} {args : Array Value} {below : List Frame} {meth : Method} {c : Code} {T : State} {locs : List Loc} {k n q : Nat} {c1 : va_E} {D : va_G} {cl : List vw_C}
    (hP : va_P D cl (mw G M ++ [(q, c1)]) T.heap) (hD : va_D (mA G) (mw G M ++ [(q, c1)])) (hz : s.heap.size + k = gB G + M.length) (X : Stand p l e R s m args below meth c T locs (k + 1) n) : q = gB G + M.length := by
  have hq : (mw G M ++ [(q, c1)])[M.length]? = some (q, c1) := by rw [List.getElem?_append_right (by simp [mw_len])]; simp [mw_len]
  have h1 := (hP _ _ hq).lt
  have h1 : q < T.heap.size := h1
  have h2 := X.heapSize
  have h3 : gB G ≤ q := hD.2 _ _ hq
  have h4 : ∀ r, r < M.length → q ≠ gB G + r := by
    intro r hr e
    obtain ⟨c2, hc⟩ : ∃ c, M[r]? = some c := ⟨_, List.getElem?_eq_getElem hr⟩
    have h5 : (mw G M ++ [(q, c1)])[r]? = some (gB G + r, me G c2) := by rw [List.getElem?_append_left (by rw [mw_len]; exact hr)]; exact mw_get hc
    have := hD.1 _ _ _ _ hq h5 e
    omega
  by_cases h : q < gB G + M.length
  · exact absurd (show q = gB G + (q - gB G) by omega) (h4 (q - gB G) (by omega))
  · omega
theorem E_new {idx ci N : Nat} {C : String} {T : u_T} {ty : Nat → FieldType} (fs : List Value) (hd : decode (iC y) pc = .ok (.new idx, 3)) (hc : vwCl[ci]? = some (C, T, N)) (hin : ∀ w ∈ u_ws C T N, w ∈ lw_ok) (hty : ∀ k, k < N → parseFieldDescriptor (T k).2.2.1 = some (ty k))
    (h1 : Cond.classLink (iY y).cls idx C ∈ lw_ok) (h2 : Cond.instantiable C N ∈ lw_ok) (h3 : Cond.initialized C ∈ lw_ok) (hfs : ∀ j, j < N → defaultValue (ty j) = vp_V fs j) (hfm : ∀ G : GT, fs.map (mv G) = fs) (h : E G y Z (k + 1) (n + N) (pc + 3) ls (.ref M.length :: st) (M ++ [.inr (ci, fs)]))
    (hr1 : k + 1 ≤ iM y := by decide) (hr2 : n + N ≤ iS y := by decide) : E G y Z k n pc ls st M := by
  intro p e s m args below meth c H locs arr F hl
  refine va_new (tys := tyG G) F.1 F.2.1 F.hts hin ty hty F.own (F.hts _ h1) (F.hts _ h2) (F.hts _ h3) F.wo.1 F.wd (mw_D G M) F.hs F.hA hc (fs := fs) hfs hr1 hr2 hd (fun q H1 hP hD hS => ?_)
  intro T1 hT1 X
  subst hT1
  have hq := new_addr hP hD F.hz X
  subst hq
  refine h p e s m args below meth c T1.heap locs arr (F.upd ?_ hS (by have := F.hz; simp; omega)) hl T1 rfl X
  rw [mw_push]
  simp only [me, hfm]; exact hP
theorem E_newa {idx t N : Nat} {a : Int} (aty : ArrayType) (ty : FieldType) (a0 : (Nat → Int32) ⊕ (Nat → Int64) ⊕ (Nat → UInt32) ⊕ (Nat → UInt64) ⊕ (Nat → Option Nat)) (hd : decode (iC y) pc = .ok (.newarray aty, 2)) (h1 : Cond.arrayClass (newarray.typeOf aty) ∈ lw_ok) (hty : newarray.typeOf aty = ty) (ht : (tyG G)[t]? = some (gC G t, ty)) (hra : ∀ (U : State) (c : ClassId), va_RA U c ty = (U.vm.findClass ("[" ++ ty.toString) = some c))
    (ha : ∀ cA : ClassId, vp_cell cA (N, a0) = arrV cA N (fun _ => defaultValue ty)) (hm0 : mr G a0 = a0) (hN : a = N) (hb : N * componentBytes ty ≤ 536870912) (hN2 : N < 2147483648) (h : E G y Z (k + 1) (n + N) (pc + 2) ls (.ref M.length :: st) (M ++ [.inl (t, N, a0)]))
    (hr1 : k + 1 ≤ iM y := by decide) (hr2 : n + N ≤ iS y := by decide) : E G y Z k n pc ls (vi a :: st) M := by
  subst hN
  intro p e s m args below meth c H locs arr F hl
  refine va_newa (tys := tyG G) (atype := aty) F.1 F.2.1 (F.hts _ h1) hty F.wo.1 F.wd (mw_D G M) F.hs F.hA (a0 := (N, a0)) ha (n := Int32.ofInt N) (N' := N) (fun q => absurd ((i_lt (by omega) (by omega)).mp (show Int32.ofInt N < Int32.ofInt 0 from q)) (by omega)) (by rw [ix_cl (by omega) (by omega)]; simp) hb hr1 hr2 hd (fun q cA H1 hK hP hD hS => ?_)
  have hc1 : va_RA s cA ty := (hK.2 (tyG G).length (cA, ty) (by simp)).2
  have hc2 : va_RA s (gC G t) ty := (F.wo.1.2 t _ ht).2
  rw [hra] at hc1 hc2
  have hcA : cA = gC G t := Option.some.inj (hc1.symm.trans hc2)
  subst hcA
  intro T1 hT1 X
  subst hT1
  have hq := new_addr hP hD F.hz X
  subst hq
  refine h p e s m args below meth c T1.heap locs arr (F.upd ?_ hS (by have := F.hz; simp; omega)) hl T1 rfl X
  rw [mw_push]
  simp only [me, hm0]; exact hP
theorem E_newq {idx t N : Nat} {a : Int} {C : String} (hd : decode (iC y) pc = .ok (.anewarray idx, 3)) (h1 : Cond.classLink (iY y).cls idx C ∈ lw_ok) (h2 : ∀ U, Wo G U → va_AO C U) (ht : (tyG G)[t]? = some (gC G t, .object C)) (hN : a = N) (hN2 : N * 4 ≤ 536870912) (h : E G y Z (k + 1) (n + N) (pc + 3) ls (.ref M.length :: st) (M ++ [.inl (t, N, .inr (.inr (.inr (.inr (fun _ => none)))))]))
    (hr1 : k + 1 ≤ iM y := by decide) (hr2 : n + N ≤ iS y := by decide) : E G y Z k n pc ls (vi a :: st) M := by
  subst hN
  intro p e s m args below meth c H locs arr F hl
  refine va_newq (tys := tyG G) F.1 F.2.1 F.own (F.hts _ h1) (h2 _ F.wo) F.wo.1 F.wd (mw_D G M) F.hs F.hA (n := Int32.ofInt N) (N' := N) (fun q => absurd ((i_lt (by omega) (by omega)).mp (show Int32.ofInt N < Int32.ofInt 0 from q)) (by omega)) (by rw [ix_cl (by omega) (by omega)]; simp) hN2 hr1 hr2 hd (fun q cA H1 hK hP hD hS => ?_)
  have hc1 : va_RA s cA (.object C) := (hK.2 (tyG G).length (cA, .object C) (by simp)).2
  have hc2 : va_RA s (gC G t) (.object C) := (F.wo.1.2 t _ ht).2
  obtain ⟨-, -, -, -, -, hc1⟩ := hc1
  obtain ⟨-, -, -, -, -, hc2⟩ := hc2
  have hcA : cA = gC G t := Option.some.inj (hc1.symm.trans hc2)
  subst hcA
  intro T1 hT1 X
  subst hT1
  have hq := new_addr hP hD F.hz X
  subst hq
  refine h p e s m args below meth c T1.heap locs arr (F.upd ?_ hS (by have := F.hz; simp; omega)) hl T1 rfl X
  rw [mw_push]
  exact hP
theorem E_objinit {idx r : Nat} (hd : decode (iC y) pc = .ok (.invokespecial idx, 3)) (h1 : Cond.methodLink (iY y).cls idx Lib.objectInit ∈ lw_ok) (h2 : Cond.instanceMethod Lib.objectInit ∈ lw_ok) (h3 : Cond.code Lib.objectInit ⟨#[0xb1]⟩ 1 none ∈ lw_ok) (h : E G y Z k n (pc + 3) ls st M)
    (hf : 1 ≤ iF y := by decide) (ho : (st.map fun v => v.category).sum + 12 ≤ iO y := by exact Nat.le_of_ble_eq_true rfl) : E G y Z k n pc ls (.ref r :: st) M := by
  intro p e s m args below meth c H locs arr F hl
  refine W.objInit F.1 F.2.1 F.own (F.hts _ h1) (F.hts _ h2) (F.hts _ h3) rfl (by rw [F.2.2.1]; exact hl.1) rfl hd hf ?_ (h p e s m args below meth c H locs arr F hl)
  show 2 * 0 + ((st.map (mv G)).map fun v => v.category).sum + 12 ≤ iO y
  rw [List.map_map]
  have e1 : ((fun v : Value => v.category) ∘ mv G) = fun v => v.category := funext (mv_cat G)
  rw [e1]; omega
theorem cat_room {st : List Value} {m : MethodId} {arr : Array Slot} {stk : List Value} (h : (st.map fun v => v.category).sum ≤ 8) : 2 * (F0 m pc arr stk).monitorRoom + (((st.map (mv G))).map fun v => v.category).sum ≤ 8 := by
  refine lv_room ?_
  rw [List.map_map]
  have e1 : ((fun v : Value => v.category) ∘ mv G) = fun v => v.category := funext (mv_cat G)
  rw [e1]; exact h
/-- behind a call -/
theorem E_run {y' : MI} {a : Array Value} {Qc : QT} {stk : List Value} {p : Program} {e : Env} {s : State} {m : MethodId} {args : Array Value} {below : List Frame} {meth : Method} {c : Code} {H : Heap} {locs : List Loc} {arr : Array Slot}
    (F : Fr G y k p s m args meth c H locs M) (hl : Lo G (iL y) arr ls) (hr : va_Run p (gL G) e (rmI y) s m args below meth c H locs k n (iM y') (iS y') (F0 m pc arr stk) (st.map (mv G)) (Qm G y' Qc a) (mA G))
    (h : ∀ v M', Qc v M' → E G y Z (k + iM y') (n + iS y') (pc + 3) ls (v.toList ++ st) M') : W p (gL G) e (rmI y) s m args below meth c H locs k n (Z below args s) (F0 m pc arr stk) := by
  intro T hT X
  obtain ⟨v, st₀, t, T', L, h0, X', hL, e1, e2, ⟨⟨v', M', hv, hq, hz, hW, hWd, hsz⟩, hF1, hF2⟩, hg⟩ := hr T hT X
  cases hv
  subst hT
  have hS := F.hs
  rw [h0] at hz hF1 hF2
  have hsz0 := F.size X
  have hz0 := F.hz
  have hS1 : va_S (mA G) s.heap t.heap (locs ++ L) := by
    refine ⟨Nat.le_trans hS.1 hF1, fun q h1 h2 => ?_, fun q hq => ?_⟩
    · rw [hF2 q (Nat.lt_of_lt_of_le h1 hS.1) h2]; exact hS.2.1 q h1 h2
    · rcases List.mem_append.mp hq with h | h
      · exact hS.2.2 q h
      · exact hL q h
  obtain ⟨t2, a1, b1⟩ := h v' M' hq p e s m args below meth c t.heap (locs ++ L) arr (F.upd hWd hS1 (by omega)) hl T' e1 X'
  refine ⟨t2, hg _ ?_, b1⟩
  have e3 : (v'.toList ++ st).map (mv G) = (v'.map (mv G)).toList ++ st.map (mv G) := by cases v' <;> simp
  rw [e3] at a1
  exact a1
/-- the words of a call: own class, index, callee, number of parameters -/
def LB (own : String) (idx : Nat) (y' : MI) (na : Nat) : Prop := Cond.methodLink own idx (iY y') ∈ lw_ok ∧ Cond.initialized (iY y').cls ∈ lw_ok ∧ Cond.code (iY y') (iC y') (iL y') (iR y') ∈ lw_ok ∧
  ((iY y').cls ≠ "java/lang/invoke/MethodHandle" ∧ (iY y').cls ≠ "java/lang/invoke/VarHandle" ∧ (parseMethodDescriptor (iY y').desc).map (fun d => d.parameters.length) = some na)
def LV (own : String) (idx : Nat) (y' : MI) (na ci : Nat) : Prop := LB own idx y' na ∧ Cond.instanceMethod (iY y') ∈ lw_ok ∧ Cond.selects (iY y').cls (iY y') (iY y') ∈ lw_ok ∧ ∃ q : vw_C, vwCl[ci]? = some q ∧ q.1 = (iY y').cls
def LSt (own : String) (idx : Nat) (y' : MI) (na : Nat) : Prop := LB own idx y' na ∧ Cond.static (iY y') ∈ lw_ok
def LI (own : String) (idx : Nat) (y' : MI) (na : Nat) : Prop := LB own idx y' na ∧ (iY y').name = "<init>" ∧ Cond.instanceMethod (iY y') ∈ lw_ok ∧ iR y' = none
def LN (own : String) (idx : Nat) (y' : MI) (na : Nat) : Prop := (∃ host, Cond.methodLinkNest own idx (iY y') host ∈ lw_nest) ∧ Cond.initialized (iY y').cls ∈ lw_ok ∧ Cond.code (iY y') (iC y') (iL y') (iR y') ∈ lw_ok ∧
  ((iY y').cls ≠ "java/lang/invoke/MethodHandle" ∧ (iY y').cls ≠ "java/lang/invoke/VarHandle" ∧ (parseMethodDescriptor (iY y').desc).map (fun d => d.parameters.length) = some na) ∧ (iY y').name = "<init>" ∧ Cond.instanceMethod (iY y') ∈ lw_ok ∧ iR y' = none
def LR (y y' : MI) : Prop := iF y' + 1 ≤ iF y ∧ 8 + (iL y' + 11) + iO y' ≤ iO y
theorem callB {own : String} {idx na : Nat} {y y' : MI} {s : State} {args : Array Value} (h : LB own idx y' na) (hR : LR y y') (hts : ∀ w ∈ lw_ok, w.before args s = true) : CallB (rmI y) s args own idx (iY y') (iC y') (iL y') (iR y') (wsI y') (rmI y') (iM y') (iS y') na :=
  callB_of na hts (wsI_good h.2.2.1) rfl rfl rfl (hts _ h.2.1) (hts _ h.1) h.2.2.2 hR
theorem E_callV {y' : MI} {idx r na ci : Nat} {a stk fs : List Value} {Qc : QT} (hd : decode (iC y) pc = .ok (.invokevirtual idx, 3)) (hL : LV (iY y).cls idx y' na ci) (hM : M[r]? = some (.inr (ci, fs))) (hC : Ctr G y' (.ref r :: a) M Qc)
    (h : ∀ v M', Qc v M' → E G y Z (k + iM y') (n + iS y') (pc + 3) ls (v.toList ++ st) M') (hs : stk = a.reverse ++ .ref r :: st := by rfl) (hna : a.length = na := by rfl) (hR : LR y y' := by exact ⟨Nat.le_of_ble_eq_true rfl, Nat.le_of_ble_eq_true rfl⟩) (hw : (st.map fun v => v.category).sum ≤ 8 := by exact Nat.le_of_ble_eq_true rfl) (hr1 : k + iM y' ≤ iM y := by decide) (hr2 : n + iS y' ≤ iS y := by decide) : E G y Z k n pc ls stk M := by
  subst hs
  intro p e s m args below meth c H locs arr F hl
  obtain ⟨hB, h1, h2, q, hq1, hq2⟩ := hL
  intro T hT X
  subst hT
  have hsz := F.size X
  refine E_run (y' := y') (a := (Value.ref (gB G + r) :: a.map (mv G)).toArray) F hl (va_runV (y := iY y') (C := (iY y').cls) (b := gB G + r) (As := a.map (mv G)) ⟨F.1, F.2.1, F.2.2.1, F.own, F.hts⟩ hC ⟨callB hB hR F.hts, F.hts _ h1, F.hts _ h2⟩ ⟨World.blind, ?_, fun U hU hW => ⟨rfl, F.wo.next F.hs hW hU, by rw [hU]; exact F.wd, by rw [hU]; exact hsz⟩⟩ rfl (by rw [List.length_map]; exact hna) hl.1 ?_ (cat_room hw) hd ⟨hr1, hr2⟩) h T rfl X
  · have := va_recv F.wo.1 F.wd hq1 (mw_get hM)
    rw [hq2] at this
    exact this
  · show List.map (mv G) (a.reverse ++ .ref r :: st) = _
    simp [mv]
theorem E_callS {y' : MI} {idx na : Nat} {a stk : List Value} {Qc : QT} (hd : decode (iC y) pc = .ok (.invokestatic idx, 3)) (hL : LSt (iY y).cls idx y' na) (hC : Ctr G y' a M Qc)
    (h : ∀ v M', Qc v M' → E G y Z (k + iM y') (n + iS y') (pc + 3) ls (v.toList ++ st) M') (hs : stk = a.reverse ++ st := by rfl) (hna : a.length = na := by rfl) (hR : LR y y' := by exact ⟨Nat.le_of_ble_eq_true rfl, Nat.le_of_ble_eq_true rfl⟩) (hw : (st.map fun v => v.category).sum ≤ 8 := by exact Nat.le_of_ble_eq_true rfl) (hr1 : k + iM y' ≤ iM y := by decide) (hr2 : n + iS y' ≤ iS y := by decide) : E G y Z k n pc ls stk M := by
  subst hs
  intro p e s m args below meth c H locs arr F hl
  obtain ⟨hB, h1⟩ := hL
  intro T hT X
  subst hT
  have hsz := F.size X
  refine E_run (y' := y') (a := (a.map (mv G)).toArray) F hl (va_runS (y := iY y') (As := a.map (mv G)) ⟨F.1, F.2.1, F.2.2.1, F.own, F.hts⟩ hC ⟨callB hB hR F.hts, F.hts _ h1⟩ ⟨World.blind, fun U hU hW => ⟨rfl, F.wo.next F.hs hW hU, by rw [hU]; exact F.wd, by rw [hU]; exact hsz⟩⟩ rfl (by rw [List.length_map]; exact hna) hl.1 ?_ (cat_room hw) hd ⟨hr1, hr2⟩) h T rfl X
  show List.map (mv G) (a.reverse ++ st) = _
  simp
theorem E_callI {y' : MI} {idx r na : Nat} {a stk : List Value} {Qc : QT} (hd : decode (iC y) pc = .ok (.invokespecial idx, 3)) (hL : LI (iY y).cls idx y' na) (hC : Ctr G y' (.ref r :: a) M Qc)
    (h : ∀ v M', Qc v M' → E G y Z (k + iM y') (n + iS y') (pc + 3) ls (v.toList ++ st) M') (hs : stk = a.reverse ++ .ref r :: st := by rfl) (hna : a.length = na := by rfl) (hR : LR y y' := by exact ⟨Nat.le_of_ble_eq_true rfl, Nat.le_of_ble_eq_true rfl⟩) (hw : (st.map fun v => v.category).sum ≤ 8 := by exact Nat.le_of_ble_eq_true rfl) (hr1 : k + iM y' ≤ iM y := by decide) (hr2 : n + iS y' ≤ iS y := by decide) : E G y Z k n pc ls stk M := by
  subst hs
  intro p e s m args below meth c H locs arr F hl
  obtain ⟨hB, h1, h2, h3⟩ := hL
  intro T hT X
  subst hT
  have hsz := F.size X
  have hcb := callB hB hR F.hts
  rw [h3] at hcb
  refine E_run (y' := y') (a := (Value.ref (gB G + r) :: a.map (mv G)).toArray) F hl (va_runI (y := iY y') (b := gB G + r) (As := a.map (mv G)) ⟨F.1, F.2.1, F.2.2.1, F.own, F.hts⟩ hC ⟨hcb, h1, F.hts _ h2⟩ ⟨World.blind, fun U hU hW => ⟨rfl, F.wo.next F.hs hW hU, by rw [hU]; exact F.wd, by rw [hU]; exact hsz⟩⟩ rfl (by rw [List.length_map]; exact hna) hl.1 ?_ (cat_room hw) hd ⟨hr1, hr2⟩) h T rfl X
  show List.map (mv G) (a.reverse ++ .ref r :: st) = _
  simp [mv]
theorem E_callN {y' : MI} {idx r na : Nat} {a stk : List Value} {Qc : QT} (hd : decode (iC y) pc = .ok (.invokespecial idx, 3)) (hL : LN (iY y).cls idx y' na) (hC : Ctr G y' (.ref r :: a) M Qc)
    (h : ∀ v M', Qc v M' → E G y Z (k + iM y') (n + iS y') (pc + 3) ls (v.toList ++ st) M') (hs : stk = a.reverse ++ .ref r :: st := by rfl) (hna : a.length = na := by rfl) (hR : LR y y' := by exact ⟨Nat.le_of_ble_eq_true rfl, Nat.le_of_ble_eq_true rfl⟩) (hw : (st.map fun v => v.category).sum ≤ 8 := by exact Nat.le_of_ble_eq_true rfl) (hr1 : k + iM y' ≤ iM y := by decide) (hr2 : n + iS y' ≤ iS y := by decide) : E G y Z k n pc ls stk M := by
  subst hs
  intro p e s m args below meth c H locs arr F hl
  obtain ⟨⟨host, h1⟩, h2, h3, h4, h5, h6, h7⟩ := hL
  intro T hT X
  subst hT
  have hsz := F.size X
  have hcb := va_cnB (R := rmI y) (bytes := iC y') (maxL := iL y') (ret := iR y') (ws := wsI y') (rm := rmI y') (mc := iM y') (ms := iS y') na F.hts (wsI_good h3) rfl rfl rfl (F.wo.2.2.2.2.2.2.2.2.2 _ h1) (F.hts _ h2) h4 hR
  rw [h7] at hcb
  refine E_run (y' := y') (a := (Value.ref (gB G + r) :: a.map (mv G)).toArray) F hl (va_runIN (y := iY y') (b := gB G + r) (As := a.map (mv G)) ⟨F.1, F.2.1, F.2.2.1, F.own, F.hts⟩ hC ⟨hcb, h5, F.hts _ h6⟩ ⟨World.blind, fun U hU hW => ⟨rfl, F.wo.next F.hs hW hU, by rw [hU]; exact F.wd, by rw [hU]; exact hsz⟩⟩ rfl (by rw [List.length_map]; exact hna) hl.1 ?_ (cat_room hw) hd ⟨hr1, hr2⟩) h T rfl X
  show List.map (mv G) (a.reverse ++ .ref r :: st) = _
  simp [mv]
/-! the ends -/
variable {Q : QT}
theorem end_of {v : Option Value} {p : Program} {e : Env} {s : State} {m : MethodId} {args : Array Value} {below : List Frame} {meth : Method} {c : Code} {locs : List Loc} {T : State} (F : Fr G y k p s m args meth c T.heap locs M) (X : Stand p (gL G) e (rmI y) s m args below meth c T locs k n) (hq : Q v M) (hk : k = iM y) (t : State) (ht : t.heap = T.heap) (hW : s.WarmedH t.vm) :
    Qm G y Q args s (.returned (v.map (mv G))) t := by
  refine ⟨⟨v, M, rfl, hq, by rw [← hk]; exact F.hz, F.wo.next F.hs hW ht, by rw [ht]; exact F.wd, by rw [ht]; exact F.size X⟩, F.hs.F ht⟩
theorem E_iret {x : Int} (hd : decode (iC y) pc = .ok (.ireturn, 1)) (hq : Q (some (vi x)) M) (hR : iR y = some .int := by rfl) (hk : k = iM y := by rfl) (hn : n = iS y := by rfl) : E G y (Zq G y Q) k n pc ls [vi x] M := by
  intro p e s m args below meth c H locs arr F hl T hT X
  subst hT
  have hlk := F.2.2.2.2.1
  have hz := W.iret (p := p) (l := gL G) (e := e) (R := rmI y) (s := s) (m := m) (args := args) (below := below) (meth := meth) (c := c) (H := T.heap) (locs := locs) (cells := k) (slots := n) (Qc := Qm G y Q) (free := mA G) (v := Int32.ofInt x) (ls := arr) F.1 F.2.1 (by rw [F.2.2.2.1]; exact hR) (fun t ht hW => end_of (v := some (vi x)) F X hq hk t ht hW) F.hs.2.2 hd hlk
  unfold Zq
  rw [← hk, ← hn]
  exact hz T rfl X
theorem E_zret {x : Int} (hd : decode (iC y) pc = .ok (.ireturn, 1)) (hq : Q (some (vi x)) M) (hx : x = 0 ∨ x = 1) (hR : iR y = some .boolean := by rfl) (hk : k = iM y := by rfl) (hn : n = iS y := by rfl) : E G y (Zq G y Q) k n pc ls [vi x] M := by
  intro p e s m args below meth c H locs arr F hl T hT X
  subst hT
  have hlk := F.2.2.2.2.1
  have hz := W.zret (p := p) (l := gL G) (e := e) (R := rmI y) (s := s) (m := m) (args := args) (below := below) (meth := meth) (c := c) (H := T.heap) (locs := locs) (cells := k) (slots := n) (Qc := Qm G y Q) (free := mA G) (v := Int32.ofInt x) (ty := .boolean) (ls := arr) F.1 F.2.1 (by rw [F.2.2.2.1]; exact hR) (by rcases hx with rfl | rfl <;> rfl) (fun t ht hW => end_of (v := some (vi x)) F X hq hk t ht hW) F.hs.2.2 hd hlk
  unfold Zq
  rw [← hk, ← hn]
  exact hz T rfl X
theorem E_lret {x : Int} (hd : decode (iC y) pc = .ok (.lreturn, 1)) (hq : Q (some (vl x)) M) (hR : iR y = some .long := by rfl) (hk : k = iM y := by rfl) (hn : n = iS y := by rfl) : E G y (Zq G y Q) k n pc ls [vl x] M := by
  intro p e s m args below meth c H locs arr F hl T hT X
  subst hT
  have hlk := F.2.2.2.2.1
  have hz := W.lret (p := p) (l := gL G) (e := e) (R := rmI y) (s := s) (m := m) (args := args) (below := below) (meth := meth) (c := c) (H := T.heap) (locs := locs) (cells := k) (slots := n) (Qc := Qm G y Q) (free := mA G) (v := Int64.ofInt x) (ls := arr) F.1 F.2.1 (by rw [F.2.2.2.1]; exact hR) (fun t ht hW => end_of (v := some (vl x)) F X hq hk t ht hW) F.hs.2.2 hd hlk
  unfold Zq
  rw [← hk, ← hn]
  exact hz T rfl X
theorem E_vret (hd : decode (iC y) pc = .ok (.return_, 1)) (hq : Q none M) (hR : iR y = none := by rfl) (hk : k = iM y := by rfl) (hn : n = iS y := by rfl) : E G y (Zq G y Q) k n pc ls [] M := by
  intro p e s m args below meth c H locs arr F hl T hT X
  subst hT
  have hlk := F.2.2.2.2.1
  have hz := W.vret (p := p) (l := gL G) (e := e) (R := rmI y) (s := s) (m := m) (args := args) (below := below) (meth := meth) (c := c) (H := T.heap) (locs := locs) (cells := k) (slots := n) (Qc := Qm G y Q) (free := mA G) (ls := arr) F.1 F.2.1 (by rw [F.2.2.2.1]; exact hR) (fun t ht hW => end_of (v := none) F X hq hk t ht hW) F.hs.2.2 hd hlk
  unfold Zq
  rw [← hk, ← hn]
  exact hz T rfl X
theorem lg_len : ∀ a : List Value, (lg_sl (a.map (mv G))).length = (enA a).length
  | [] => rfl
  | v :: t => by
    have ih := lg_len t
    have hc := mv_cat G v
    have e1 : lg_sl ((v :: t).map (mv G)) = (if (mv G v).category = 2 then [.val (mv G v), .second] else [.val (mv G v)]) ++ lg_sl (t.map (mv G)) := by simp [lg_sl]
    rw [e1, List.length_append, ih, hc]
    cases v <;> simp [enA, Value.category] <;> omega
theorem ofWF {l : Launch} {y : MethodName} {ws ws' : List Cond} {rm : Room} {Pc : Array Value → State → Prop} {Qc : Array Value → State → Outcome → State → Prop} {mc ms : Nat} {free : Addr → Prop} {cc : ByteArray} {maxL : Nat} {ret : Option FieldType}
    (hy : plainFor y = true) (hw : ws = Cond.code y cc maxL ret :: ws')
    (body : ∀ p e s m args below meth c s₁, BodyLoose p l y (headSpec ws rm) cc maxL ret e s m args below meth c s₁ → c.maxLocals = maxL → Pc args s →
      W p l e (headSpec ws rm).room s m args below meth c s.heap [] 0 0 (MQ below Qc args s mc ms free) (entryFrame m args maxL)) : Met l y ws rm Pc Qc mc ms free := by
  refine MetFree.of_bodySF (code := cc) (maxLocals := maxL) (ret := ret) hy ?_ ?_
  · intro args s m h hn
    obtain ⟨meth, c, h1, h2, h3, h4, h5, h6, -, -⟩ := Cond.code_spec hn (atoms_spec (ws := ws) h _ (by rw [hw]; exact List.mem_cons_self))
    exact ⟨meth, c, h1, h2, h3, h4, h5, h6⟩
  · intro p e s m args below meth c s₁ B hml hP _
    have hh0 : s₁.heap = s.heap := by rw [B.state]; rfl
    obtain ⟨t, a1, o, b1, b2, b3⟩ := body p e s m args below meth c s₁ B hml hP s₁ hh0 (Stand.of_body B)
    exact ⟨t, o, a1, b1, b2, ⟨b3.1, b3.2⟩⟩
theorem Ctr.of {a : List Value} (hE : E G y (Zq G y Q) 0 0 0 (en a (iL y)) [] M) (hp : plainFor (iY y) = true := by decide +kernel) (hlen : (enA a).length ≤ iL y := by exact Nat.le_of_ble_eq_true rfl) : Ctr G y a M Q := by
  refine ofWF (cc := iC y) (maxL := iL y) (ret := iR y) hp rfl ?_
  intro p e s m args below meth c s₁ B hml hv
  obtain ⟨rfl, hWo, hWd, hsz⟩ := hv
  have hts : ∀ w ∈ lw_ok, w.before (a.map (mv G)).toArray s = true := fun w hw => atoms_spec (ws := wsI y) B.pre w (List.mem_cons_of_mem _ hw)
  have hl := lv_entry (a.map (mv G)) (n := iL y) (by rw [lg_len]; exact hlen)
  rw [lg_entry_eq]
  refine hE p e s m _ below meth c s.heap [] _ ⟨B.exec, B.bytes, hml, B.returns, B.notSynchronized, (name_of_methodNamed B.named B.method).1, findClass_of_methodNamed B.named, hts, hWo, hWd, va_S.rf, hsz⟩ (Lo_en hl)
end CALLS
