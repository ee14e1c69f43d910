/-! the entry -/
theorem law_ret {p : Program} {l : Launch} {e : Env} {s : State} {m : MethodId} {args : Array Value} {below : List Frame} {meth : Method} {c : Code} (hx : p.tables.exec = Jvm.exec) (hb : c.code = code) (hr : meth.sig.returnType = ret) (hlocks : meth.locks = false) {pc : Nat} {H : Heap} {ls : Array Slot} (hdg : decode code pc = .ok (.ireturn, 1)) : W p l e room_1 s m args below meth c H [] 600000 7302250 (lw_Z below args s) (F0 m pc ls [.int 1]) := by
  intro T hT X
  obtain ⟨fs, hret, hrun, hended, hW, hframe⟩ := X.leave (v := some (.int 1)) (hlocks := hlocks) (fun h => by rw [hr] at h; cases h)
  have hmeth' : T.vm.method? m = some meth := X.method'
  refine ⟨T.setFrames fs, ?_, .returned (some (.int 1)), hrun, hended, rfl, ⟨_, rfl⟩, hW, hframe⟩
  jvm_step X.here [X.here.top, hx, hb, hdg, hmeth', hr, ret, narrow_b1]
  (try refine ⟨rfl, ?_⟩); (try refine ⟨rfl, ?_⟩)
  first | (intro acts; rw [hret _ acts rfl rfl rfl]) | rw [hret _ _ rfl rfl rfl]
  exact Steps.refl _
theorem SK_len : SK.length = 219 := by rw [SK_eq]; rfl
theorem law_end {G : GT} {nm : String} (ls : List Value) (μ : Mem) : E G (mN nm) lw_Z 219 2466 951 ls [vi 1] (Hp μ) := by
  intro p e s m args below meth c H locs arr F hl
  have hz := F.2.2.2.2.2.2.2.2.2.2.2
  have hs := F.2.2.2.2.2.2.2.2.2.2.1
  rw [Hp_len, SK_len] at hz
  refine va_forget (fun q hq => ?_) (W.widen (k := 600000) (n := 7302250) (by omega) (by omega) (law_ret F.1 F.2.1 F.2.2.2.1 F.2.2.2.2.1 dL_law_951))
  have h1 : gB G ≤ q.base := hs.2.2 q hq
  omega
theorem eq_int {args : Array Value} {s : State} {a : Term} {n : Int32} (h : (Cond.eq a (.int n)).before args s = true) : a.eval args s none [] s = some (.int n) := by
  cases hv : a.eval args s none [] s with
  | none => simp [Cond.before, Cond.holds, Cond.value, hv, Term.eval] at h
  | some v => cases v <;> simp [Cond.before, Cond.holds, Cond.value, hv, Term.eval] at h <;> simp [h]
theorem len_lt {args : Array Value} {s : State} {t : Term} {v : Value} {a : Nat} {cell : Cell} (h : (Term.length t).eval args s none [] s = some v) (ht : t.eval args s none [] s = some (.ref a)) (ha : s.arrayAt? a = some cell) : cell.slots.size < 2147483648 := by
  by_cases hn : cell.slots.size < 2147483648
  · exact hn
  · simp [Term.eval, ht, ha, hn] at h
abbrev tPr : Term := .static "FibredSpaces$Permuting" "PRODUCTS" "[I"
theorem tab_of {args : Array Value} {s : State} (hg : (Jvm.Cond.and given_1 narrow_1).before args s = true) : ∃ t : Nat, tPr.eval args s none [] s = some (.ref t) ∧ va_X t 36 tabF s s.heap ∧ t < s.heap.size := by
  have hs := flat_of_before _ hg
  have h1 := eq_int (hs (Cond.eq (.length tPr) (.int 36)) (by decide +kernel))
  obtain ⟨t, cell, ht, ha, hv⟩ := Term.length_spec h1
  have hsm := len_lt h1 ht ha
  obtain ⟨hc, hk, -, -⟩ := State.arrayAt?_spec ha
  have hof := (Cond.arrayOf_spec (hs (Cond.arrayOf tPr .int) (by decide +kernel)) ht hc).1
  have hsz : cell.slots.size = 36 := by
    have h2 : (36 : Int32) = cell.slots.size.toInt32 := Value.int.inj hv
    have h3 := congrArg Int32.toInt h2
    have h4 : (cell.slots.size.toInt32).toInt = cell.slots.size := Int32.toInt_ofNat_of_lt hsm
    rw [h4] at h3
    have h5 : (36 : Int32).toInt = 36 := by decide
    omega
  have hel : ∀ j : Nat, j < 36 → (Cond.eq (.elem tPr (.int (Int32.ofNat j))) (.int (tabF j))).before args s = true := by
    have hd : ∀ j : Nat, j < 36 → Cond.eq (.elem tPr (.int (Int32.ofNat j))) (.int (tabF j)) ∈ flatC (Jvm.Cond.and given_1 narrow_1) := by decide +kernel
    exact fun j hj => hs _ (hd j hj)
  refine ⟨t, ht, ⟨cell, hc, hof, hk, hsz, fun j hj => ?_⟩, (Array.getElem?_eq_some_iff.mp hc).1⟩
  obtain ⟨a, i, cell2, e1, e2, e3, e4, e5⟩ := Term.elem_spec (eq_int (hel j hj))
  have e1 := e1.symm.trans ht
  cases e1
  have e3 := e3.symm.trans ha
  cases e3
  have e2 : some (Value.int (Int32.ofNat j)) = some (.int i) := e2
  cases e2
  have hj2 : (Int32.ofNat j).toNatClampNeg = j := by
    have hd : ∀ j : Nat, j < 36 → (Int32.ofNat j).toNatClampNeg = j := by decide +kernel
    exact hd j hj
  rw [hj2] at e5
  exact e5
theorem world_of {args : Array Value} {s : State} (l : Launch) {b L : Nat} {xs : Nat → Int32} (hts : ∀ w ∈ lw_tbl, w.before args s = true) (hX : va_X b L xs s s.heap) (hbl : b < s.heap.size) (hg : (Jvm.Cond.and given_1 narrow_1).before args s = true) :
    ∃ G : GT, gL G = l ∧ gB G = s.heap.size ∧ gS G = b ∧ gN G = L ∧ Wo G s := by
  have hto : ∀ w ∈ lw_ok, w.before args s = true := fun w hw => hts w (List.mem_filter.mp hw).1
  obtain ⟨t, ht, hT, htl⟩ := tab_of hg
  have kn : ∀ c : Nat, ∃ p : ClassId × (Nat → Nat), ∀ q : vw_C, vwCl[c]? = some q → u_Kn s q.1 q.2.1 q.2.2 p.1 p.2 := by
    have kk : ∀ {C : String} {T : u_T} {N : Nat}, (∀ w ∈ u_ws C T N, w ∈ lw_ok) → Cond.instantiable C N ∈ lw_ok → ∀ {c : Nat}, vwCl[c]? = some (C, T, N) → ∃ p : ClassId × (Nat → Nat), ∀ q : vw_C, vwCl[c]? = some q → u_Kn s q.1 q.2.1 q.2.2 p.1 p.2 := by
      intro C T N h1 h2 c hc
      obtain ⟨cC, iS, h⟩ := u_known hto h1 (hto _ h2)
      refine ⟨(cC, iS), fun q hq => ?_⟩
      rw [hc] at hq
      cases hq
      exact h
    intro c
    match c with
    | 0 => exact kk inX0 iaX0 rfl
    | 1 => exact kk inX1 iaX1 rfl
    | 2 => exact kk inX2 iaX2 rfl
    | 3 => exact kk inX3 iaX3 rfl
    | 4 => exact kk inX5 iaX5 rfl
    | 5 => exact kk inX6 iaX6 rfl
    | 6 => exact kk inX7 iaX7 rfl
    | 7 => exact kk inX8 iaX8 rfl
    | 8 => exact kk inX9 iaX9 rfl
    | 9 => exact kk inX10 iaX10 rfl
    | 10 => exact kk inX11 iaX11 rfl
    | c + 11 => exact ⟨(0, fun _ => 0), fun q hq => by simp [vwCl] at hq⟩
  obtain ⟨f, hf⟩ := Classical.axiomOfChoice kn
  obtain ⟨cI, kI, pI, i1, i2, i3⟩ := Cond.arrayClass_spec (hto _ ac_int)
  obtain ⟨cL, kL, pL, l1, l2, l3⟩ := Cond.arrayClass_spec (hto _ ac_long)
  obtain ⟨cZ, kZ, pZ, z1, z2, z3⟩ := Cond.arrayClass_spec (hto _ ac_boolean)
  have hS := hts (.arrayOver (.object "FibredSpaces$Shelf")) (by decide +kernel)
  have hP := hts (.arrayOver (.object "FibredSpaces$Space")) (by decide +kernel)
  obtain ⟨pS, cS, kS, s1', -, s3, s4, s5⟩ := Cond.arrayOver_spec hS
  obtain ⟨pP, cP, kP, q1, -, q3, q4, q5⟩ := Cond.arrayOver_spec hP
  refine ⟨(l, (fun c => (f c).1, fun c => (f c).2), (fun k => match k with | 0 => cI | 1 => cL | 2 => cZ | 3 => cS | _ => cP), s.heap.size, b, L, xs, t), rfl, rfl, rfl, rfl, ⟨fun c q hq => hf c q hq, fun k q hq => ?_⟩, hX, hbl, hT, htl, va_Zref (hts (.laysStatic "FibredSpaces$Permuting" "PRODUCTS" "[I") (by decide +kernel)) (hto _ iniX5) ht (fun a ha q => absurd (show s.heap.size ≤ a from q) (by omega)), Nat.le_refl _, va_AO.of hS, va_AO.of hP, fun w hw => ?_⟩
  · match k, hq with
    | 0, hq => cases hq; exact ⟨fun n z => ⟨fun k h => (by cases h), kI, i2, pI, i3⟩, i1⟩
    | 1, hq => cases hq; exact ⟨fun n z => ⟨fun k h => (by cases h), kL, l2, pL, l3⟩, l1⟩
    | 2, hq => cases hq; exact ⟨fun n z => ⟨fun k h => (by cases h), kZ, z2, pZ, z3⟩, z1⟩
    | 3, hq => cases hq; exact ⟨fun n z => ⟨fun k h => (by cases h), kS, s3, pS, s4⟩, kS, pS, s3, s4, s1', s5⟩
    | 4, hq => cases hq; exact ⟨fun n z => ⟨fun k h => (by cases h), kP, q3, pP, q4⟩, kP, pP, q3, q4, q1, q5⟩
    | k + 5, hq => simp [tyG] at hq
  · obtain ⟨h1, h2⟩ := List.mem_filter.mp hw
    refine va_Nw.of ?_ (hts w h1)
    cases w <;> first | rfl | simp at h2
theorem whole_start {p : Program} {e : Env} {s : State} {m : MethodId} {below : List Frame} {meth : Method} {c : Code} (l : Launch) (hflags : l.flags = flags0) {b L : Nat} {xs : Nat → Int32} (hL : L ≤ 2048) (C0 : lw_At p s m meth c b L xs) : W p l e room_1 s m #[Value.ref b] below meth c s.heap [] 0 0 (lw_Z below #[Value.ref b] s) (entryFrame m ([Value.ref b] : List Value).toArray 4) := by
  obtain ⟨hx, hb, hr, hml, hown, hts, hX, hbl, hlocks, hgv⟩ := C0
  obtain ⟨G, g1, g2, g3, g4, hWo⟩ := world_of l hts hX hbl hgv
  have hto : ∀ w ∈ lw_ok, w.before #[Value.ref b] s = true := fun w hw => hts w (List.mem_filter.mp hw).1
  have hE := law_E (nm := meth.name) (G := G) (Z := lw_Z) (by omega) law_end
  have hl := lv_entry ([.ref b]) (n := 4) (Nat.le_of_ble_eq_true rfl)
  rw [lg_entry_eq]
  subst g1 g3
  refine hE p e s m _ below meth c s.heap [] _ ⟨hx, hb, hml, hr, hlocks, rfl, hown, hto, hWo, (fun k q h => by simp [mw] at h), va_S.rf, by rw [g2]; rfl⟩ (Lo_en (a := [.retAddr 1]) hl)
