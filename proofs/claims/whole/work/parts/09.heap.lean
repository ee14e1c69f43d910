section FRA
variable {G : GT} {y : MI} {k : Nat} {p : Program} {s : State} {m : MethodId} {args : Array Value} {meth : Method} {c : Code} {H : Heap} {locs : List Loc} {M : HV}
theorem Fr.own (F : Fr G y k p s m args meth c H locs M) : s.vm.findClass (iY y).cls = some m.cls := F.2.2.2.2.2.2.1
theorem Fr.hts (F : Fr G y k p s m args meth c H locs M) : ∀ w ∈ lw_ok, w.before args s = true := F.2.2.2.2.2.2.2.1
theorem Fr.wo (F : Fr G y k p s m args meth c H locs M) : Wo G s := F.2.2.2.2.2.2.2.2.1
theorem Fr.wd (F : Fr G y k p s m args meth c H locs M) : va_P (gD G) vwCl (mw G M) H := F.2.2.2.2.2.2.2.2.2.1
theorem Fr.hs (F : Fr G y k p s m args meth c H locs M) : va_S (mA G) s.heap H locs := F.2.2.2.2.2.2.2.2.2.2.1
theorem Fr.hz (F : Fr G y k p s m args meth c H locs M) : s.heap.size + k = gB G + M.length := F.2.2.2.2.2.2.2.2.2.2.2
theorem Fr.hA (F : Fr G y k p s m args meth c H locs M) : ∀ q, s.heap.size ≤ q → mA G q := fun q h => Nat.le_trans F.wo.2.2.2.2.2.2.1 h
theorem Fr.upd (F : Fr G y k p s m args meth c H locs M) {k' : Nat} {H1 : Heap} {locs1 : List Loc} {M' : HV} (hP : va_P (gD G) vwCl (mw G M') H1) (hS : va_S (mA G) s.heap H1 locs1) (hz : s.heap.size + k' = gB G + M'.length) : Fr G y k' p s m args meth c H1 locs1 M' := by
  obtain ⟨a1, a2, a3, a4, a5, a6, a7, a8, a9, -, -, -⟩ := F
  exact ⟨a1, a2, a3, a4, a5, a6, a7, a8, a9, hP, hS, hz⟩
end FRA
theorem Wo.next {G : GT} {s t : State} {H : Heap} {locs : List Loc} (h : Wo G s) (hS : va_S (mA G) s.heap H locs) (hW : s.WarmedH t.vm) (ht : t.heap = H) : Wo G t := by
  have hv := hW.alike
  obtain ⟨h1, h2, h3, h4, h5, h6, h7, h8, h9, h10⟩ := h
  have e1 : H[gS G]? = s.heap[gS G]? := hS.2.1 _ (by omega) (by unfold mA; omega)
  have e2 : H[gT G]? = s.heap[gT G]? := hS.2.1 _ (by omega) (by unfold mA; omega)
  refine ⟨va_K.moved hv h1, ?_, h3, ?_, h5, ?_, ?_, va_AO.moved hv h8, va_AO.moved hv h9, fun w hw => ?_⟩
  · rw [ht]; exact va_X.moved hv (va_X.kept h2 e1)
  · rw [ht]; exact va_X.moved hv (va_X.kept h4 e2)
  · rw [ht]; exact va_Z.moved hv (va_Z.kept h6 (fun a h8 h9 => hS.2.1 a h8 h9))
  · rw [ht]; exact Nat.le_trans h7 hS.1
  · have hn := h10 w hw
    have hm := (List.mem_filter.mp hw).2
    cases w with
    | methodLinkNest a i x h => exact va_Nw.warmM hW hn
    | _ => simp at hm
section HEAP
variable {G : GT} {y : MI} {Z : ZT} {k n pc : Nat} {ls st : List Value} {M : HV}
theorem E_get {r idx ci kf N : Nat} {C : String} {T : u_T} {fs : List Value} {v : Value} (hd : decode (iC y) pc = .ok (.getfield idx, 3)) (hc : vwCl[ci]? = some (C, T, N)) (hin : ∀ w ∈ u_ws C T N, w ∈ lw_ok) (hk : kf < N) (hlk : Cond.fieldLink (iY y).cls idx (T kf).1 (T kf).2.1 (T kf).2.2.1 ∈ lw_ok)
    (hM : M[r]? = some (.inr (ci, fs))) (hv : fs[kf]? = some v) (h : E G y Z k n (pc + 3) ls (v :: st) M) : E G y Z k n pc ls (.ref r :: st) M := by
  intro p e s m args below meth c H locs arr F hl
  exact va_get (tys := tyG G) F.1 F.2.1 F.hts hin F.own F.wo.1 F.wd r (mw_get hM) hc kf hk (F.hts _ hlk) (fun _ h9 => h9) (by rw [List.getElem?_map, hv]; rfl) hd (h p e s m args below meth c H locs arr F hl)
theorem set_len {M : HV} {r : Nat} {c : va_E} : (M.set r c).length = M.length := List.length_set
theorem E_put {r idx ci kf N : Nat} {C : String} {T : u_T} {ty0 : Nat → FieldType} {ty : FieldType} {fs : List Value} {v : Value} (hd : decode (iC y) pc = .ok (.putfield idx, 3)) (hc : vwCl[ci]? = some (C, T, N)) (hin : ∀ w ∈ u_ws C T N, w ∈ lw_ok)
    (hty : ∀ k, k < N → parseFieldDescriptor (T k).2.2.1 = some (ty0 k)) (hnm : ∀ a, a < N → ∀ b, b < N → a ≠ b → (T a).2.1 ≠ (T b).2.1) (hk : kf < N) (hlk : Cond.fieldLink (iY y).cls idx (T kf).1 (T kf).2.1 (T kf).2.2.1 ∈ lw_ok)
    (hfin : (T kf).2.2.2 = false) (hd2 : parseFieldDescriptor (T kf).2.2.1 = some ty) (hn : narrow ty (mv G v) = mv G v) (hfit : fits ty (mv G v) = true)
    (hM : M[r]? = some (.inr (ci, fs))) (hlen : kf < fs.length) (h : E G y Z k n (pc + 3) ls st (M.set r (.inr (ci, fs.set kf v)))) : E G y Z k n pc ls (v :: .ref r :: st) M := by
  intro p e s m args below meth c H locs arr F hl
  refine va_put (tys := tyG G) F.1 F.2.1 F.hts hin ty0 hty hnm F.own F.wo.1 F.wd (mw_D G M) F.hs r (mw_get hM) hc kf hk (F.hts _ hlk) (fun _ h9 => h9) hfin hd2 hn hfit (by rw [List.length_map]; exact hlen) hd (fun H1 locs1 hP hD hS => ?_)
  refine h p e s m args below meth c H1 locs1 arr (F.upd ?_ hS (by rw [set_len]; exact F.hz)) hl
  rw [← mw_set]
  have e1 : me G (.inr (ci, fs.set kf v)) = .inr (ci, (fs.map (mv G)).set kf (mv G v)) := by simp [me, List.map_set]
  rw [e1]; exact hP
theorem E_putF {r idx ci kf N : Nat} {C : String} {T : u_T} {ty0 : Nat → FieldType} {ty : FieldType} {fs : List Value} {v : Value} (hd : decode (iC y) pc = .ok (.putfield idx, 3)) (hc : vwCl[ci]? = some (C, T, N)) (hin : ∀ w ∈ u_ws C T N, w ∈ lw_ok)
    (hty : ∀ k, k < N → parseFieldDescriptor (T k).2.2.1 = some (ty0 k)) (hnm : ∀ a, a < N → ∀ b, b < N → a ≠ b → (T a).2.1 ≠ (T b).2.1) (hk : kf < N) (hlk : Cond.fieldLink (iY y).cls idx (T kf).1 (T kf).2.1 (T kf).2.2.1 ∈ lw_ok)
    (hfin : (T kf).2.2.2 = true) (hi : (iY y).name = "<init>") (hde : (T kf).1 = (iY y).cls) (hd2 : parseFieldDescriptor (T kf).2.2.1 = some ty) (hn : narrow ty (mv G v) = mv G v) (hfit : fits ty (mv G v) = true)
    (hM : M[r]? = some (.inr (ci, fs))) (hlen : kf < fs.length) (h : E G y Z k n (pc + 3) ls st (M.set r (.inr (ci, fs.set kf v)))) : E G y Z k n pc ls (v :: .ref r :: st) M := by
  intro p e s m args below meth c H locs arr F hl
  refine va_putF (tys := tyG G) F.1 F.2.1 F.hts hin ty0 hty hnm F.own F.wo.1 F.wd (mw_D G M) F.hs r (mw_get hM) hc kf hk (F.hts _ hlk) (fun _ h9 => h9) hfin (by rw [F.2.2.2.2.2.1]; exact hi) hde hd2 hn hfit (by rw [List.length_map]; exact hlen) hd (fun H1 locs1 hP hD hS => ?_)
  refine h p e s m args below meth c H1 locs1 arr (F.upd ?_ hS (by rw [set_len]; exact F.hz)) hl
  rw [← mw_set]
  have e1 : me G (.inr (ci, fs.set kf v)) = .inr (ci, (fs.map (mv G)).set kf (mv G v)) := by simp [me, List.map_set]
  rw [e1]; exact hP
theorem ix_cl {i : Int} (h0 : 0 ≤ i) (h1 : i < 2147483648) : (Int32.ofInt i).toNatClampNeg = i.toNat := by
  show (Int32.ofInt i).toInt.toNat = i.toNat
  rw [i_in (by omega)]
theorem ix_in {i : Int} {N : Nat} (h0 : 0 ≤ i) (h1 : i < N) (h2 : i < 2147483648) : vp_in (Int32.ofInt i) N := by
  rw [vp_in_iff, i_in (by omega)]
  exact ⟨h0, h1⟩
theorem E_iald {r N : Nat} {f : Nat → Int32} {i : Int} (hd : decode (iC y) pc = .ok (.iaload, 1)) (hM : M[r]? = some (.inl (0, N, .inl f))) (h0 : 0 ≤ i) (h1 : i < N) (h2 : i < 2147483648) (h : E G y Z k n (pc + 1) ls (.int (f i.toNat) :: st) M) : E G y Z k n pc ls (vi i :: .ref r :: st) M := by
  intro p e s m args below meth c H locs arr F hl
  refine va_iald (tys := tyG G) F.1 F.2.1 F.wo.1 F.wd r 0 (mw_get hM) rfl (ix_in h0 h1 h2) hd ?_
  rw [ix_cl h0 h2]
  exact h p e s m args below meth c H locs arr F hl
theorem E_lald {r N : Nat} {f : Nat → Int64} {i : Int} (hd : decode (iC y) pc = .ok (.laload, 1)) (hM : M[r]? = some (.inl (1, N, .inr (.inl f)))) (h0 : 0 ≤ i) (h1 : i < N) (h2 : i < 2147483648) (h : E G y Z k n (pc + 1) ls (.long (f i.toNat) :: st) M) : E G y Z k n pc ls (vi i :: .ref r :: st) M := by
  intro p e s m args below meth c H locs arr F hl
  refine va_lald (tys := tyG G) F.1 F.2.1 F.wo.1 F.wd r 1 (mw_get hM) rfl (ix_in h0 h1 h2) hd ?_
  rw [ix_cl h0 h2]
  exact h p e s m args below meth c H locs arr F hl
theorem E_zald {r N : Nat} {f : Nat → Int32} {i : Int} (hd : decode (iC y) pc = .ok (.baload, 1)) (hM : M[r]? = some (.inl (2, N, .inl f))) (h0 : 0 ≤ i) (h1 : i < N) (h2 : i < 2147483648) (h : E G y Z k n (pc + 1) ls (.int (f i.toNat) :: st) M) : E G y Z k n pc ls (vi i :: .ref r :: st) M := by
  intro p e s m args below meth c H locs arr F hl
  refine va_zald (tys := tyG G) F.1 F.2.1 F.wo.1 F.wd r 2 (mw_get hM) rfl (ix_in h0 h1 h2) hd ?_
  rw [ix_cl h0 h2]
  exact h p e s m args below meth c H locs arr F hl
theorem E_aald {r N t : Nat} {C : String} {f : Nat → Option Nat} {a : Nat} {i : Int} (hd : decode (iC y) pc = .ok (.aaload, 1)) (hM : M[r]? = some (.inl (t, N, .inr (.inr (.inr (.inr f)))))) (ht : (tyG G)[t]? = some (gC G t, .object C)) (h0 : 0 ≤ i) (h1 : i < N) (h2 : i < 2147483648) (hf : f i.toNat = some a) (h : E G y Z k n (pc + 1) ls (.ref a :: st) M) : E G y Z k n pc ls (vi i :: .ref r :: st) M := by
  intro p e s m args below meth c H locs arr F hl
  refine va_aldq (tys := tyG G) F.1 F.2.1 F.wo.1 F.wd r t (mw_get hM) ht (ix_in h0 h1 h2) hd ?_
  rw [ix_cl h0 h2, hf]
  exact h p e s m args below meth c H locs arr F hl
theorem E_iast {r N : Nat} {f : Nat → Int32} {i x : Int} (hd : decode (iC y) pc = .ok (.iastore, 1)) (hM : M[r]? = some (.inl (0, N, .inl f))) (h0 : 0 ≤ i) (h1 : i < N) (h2 : i < 2147483648) (h : E G y Z k n (pc + 1) ls st (M.set r (.inl (0, N, .inl (upd f i.toNat (Int32.ofInt x)))))) : E G y Z k n pc ls (vi x :: vi i :: .ref r :: st) M := by
  intro p e s m args below meth c H locs arr F hl
  refine va_iast (tys := tyG G) F.1 F.2.1 F.wo.1 F.wd (mw_D G M) F.hs r 0 (mw_get hM) rfl (ix_in h0 h1 h2) hd (fun H1 locs1 hP hD hS => ?_)
  refine h p e s m args below meth c H1 locs1 arr (F.upd ?_ hS (by rw [set_len]; exact F.hz)) hl
  rw [ix_cl h0 h2] at hP
  rw [← mw_set]; exact hP
theorem E_last {r N : Nat} {f : Nat → Int64} {i x : Int} (hd : decode (iC y) pc = .ok (.lastore, 1)) (hM : M[r]? = some (.inl (1, N, .inr (.inl f)))) (h0 : 0 ≤ i) (h1 : i < N) (h2 : i < 2147483648) (h : E G y Z k n (pc + 1) ls st (M.set r (.inl (1, N, .inr (.inl (vp_updL f i.toNat (Int64.ofInt x))))))) : E G y Z k n pc ls (vl x :: vi i :: .ref r :: st) M := by
  intro p e s m args below meth c H locs arr F hl
  refine va_last (tys := tyG G) F.1 F.2.1 F.wo.1 F.wd (mw_D G M) F.hs r 1 (mw_get hM) rfl (ix_in h0 h1 h2) hd (fun H1 locs1 hP hD hS => ?_)
  refine h p e s m args below meth c H1 locs1 arr (F.upd ?_ hS (by rw [set_len]; exact F.hz)) hl
  rw [ix_cl h0 h2] at hP
  rw [← mw_set]; exact hP
theorem E_zast {r N : Nat} {f : Nat → Int32} {i x : Int} (hd : decode (iC y) pc = .ok (.bastore, 1)) (hM : M[r]? = some (.inl (2, N, .inl f))) (h0 : 0 ≤ i) (h1 : i < N) (h2 : i < 2147483648) (hx : x = 0 ∨ x = 1) (h : E G y Z k n (pc + 1) ls st (M.set r (.inl (2, N, .inl (upd f i.toNat (Int32.ofInt x)))))) : E G y Z k n pc ls (vi x :: vi i :: .ref r :: st) M := by
  intro p e s m args below meth c H locs arr F hl
  refine va_zast (tys := tyG G) F.1 F.2.1 F.wo.1 F.wd (mw_D G M) F.hs r 2 (mw_get hM) rfl (ix_in h0 h1 h2) hd (fun H1 locs1 hP hD hS => ?_)
  refine h p e s m args below meth c H1 locs1 arr (F.upd ?_ hS (by rw [set_len]; exact F.hz)) hl
  rw [ix_cl h0 h2] at hP
  rw [← mw_set]
  rcases hx with rfl | rfl <;> exact hP
theorem E_aast {r N t v ci : Nat} {q : vw_C} {vs : List Value} {f : Nat → Option Nat} {i : Int} (hd : decode (iC y) pc = .ok (.aastore, 1)) (hM : M[r]? = some (.inl (t, N, .inr (.inr (.inr (.inr f)))))) (ht : (tyG G)[t]? = some (gC G t, .object q.1)) (hv : M[v]? = some (.inr (ci, vs))) (hc : vwCl[ci]? = some q) (h0 : 0 ≤ i) (h1 : i < N) (h2 : i < 2147483648)
    (h : E G y Z k n (pc + 1) ls st (M.set r (.inl (t, N, .inr (.inr (.inr (.inr (va_up f i.toNat (some v))))))))) : E G y Z k n pc ls (.ref v :: vi i :: .ref r :: st) M := by
  intro p e s m args below meth c H locs arr F hl
  refine va_astq (tys := tyG G) F.1 F.2.1 F.wo.1 F.wd (mw_D G M) F.hs r t v ci (mw_get hM) ht (mw_get hv) hc (ix_in h0 h1 h2) hd (fun H1 locs1 hP hD hS => ?_)
  refine h p e s m args below meth c H1 locs1 arr (F.upd ?_ hS (by rw [set_len]; exact F.hz)) hl
  rw [ix_cl h0 h2] at hP
  rw [← mw_set]
  have e1 : me G (.inl (t, N, .inr (.inr (.inr (.inr (va_up f i.toNat (some v))))))) = .inl (gC G t, N, .inr (.inr (.inr (.inr (va_up (fun i => (f i).map (fun r => gB G + r)) i.toNat (some (gB G + v))))))) := by
    simp only [me, mr]
    congr 7
    funext j
    by_cases hj : j = i.toNat <;> simp [va_up, hj]
  rw [e1]; exact hP
theorem E_alen {r t N : Nat} {x : (Nat → Int32) ⊕ (Nat → Int64) ⊕ (Nat → UInt32) ⊕ (Nat → UInt64) ⊕ (Nat → Option Nat)} {ty : FieldType} (hd : decode (iC y) pc = .ok (.arraylength, 1)) (hM : M[r]? = some (.inl (t, N, x))) (ht : (tyG G)[t]? = some (gC G t, ty)) (h : E G y Z k n (pc + 1) ls (vi N :: st) M) : E G y Z k n pc ls (.ref r :: st) M := by
  intro p e s m args below meth c H locs arr F hl
  exact va_alen (tys := tyG G) F.1 F.2.1 F.wo.1 F.wd r t (mw_get hM) ht rfl hd (h p e s m args below meth c H locs arr F hl)
theorem E_sld {i : Int} (hd : decode (iC y) pc = .ok (.iaload, 1)) (h0 : 0 ≤ i) (h1 : i < gN G) (h2 : i < 2147483648) (h : E G y Z k n (pc + 1) ls (vi (gX G i.toNat).toInt :: st) M) : E G y Z k n pc ls (vi i :: .retAddr 1 :: st) M := by
  intro p e s m args below meth c H locs arr F hl
  have hw := F.wo
  refine va_sld (A := mA G) (H0 := s.heap) F.1 F.2.1 hw.2.1 (by have := hw.2.2.1; have := hw.2.2.2.2.2.2.1; omega) (by unfold mA; have := hw.2.2.1; omega) F.hs (ix_in h0 h1 h2) hd ?_
  rw [ix_cl h0 h2]
  have := h p e s m args below meth c H locs arr F hl
  simpa only [List.map_cons, vi, mv, Int32.ofInt_toInt] using this
theorem E_slen (hd : decode (iC y) pc = .ok (.arraylength, 1)) (h : E G y Z k n (pc + 1) ls (vi (gN G) :: st) M) : E G y Z k n pc ls (.retAddr 1 :: st) M := by
  intro p e s m args below meth c H locs arr F hl
  have hw := F.wo
  exact va_slen (A := mA G) (H0 := s.heap) F.1 F.2.1 hw.2.1 (by have := hw.2.2.1; have := hw.2.2.2.2.2.2.1; omega) (by unfold mA; have := hw.2.2.1; omega) F.hs hd (h p e s m args below meth c H locs arr F hl)
theorem E_tld {i : Int} (hd : decode (iC y) pc = .ok (.iaload, 1)) (h0 : 0 ≤ i) (h1 : i < 36) (h : E G y Z k n (pc + 1) ls (vi (tabF i.toNat).toInt :: st) M) : E G y Z k n pc ls (vi i :: .retAddr 2 :: st) M := by
  intro p e s m args below meth c H locs arr F hl
  have hw := F.wo
  refine va_sld (A := mA G) (H0 := s.heap) F.1 F.2.1 hw.2.2.2.1 (by have := hw.2.2.2.2.1; have := hw.2.2.2.2.2.2.1; omega) (by unfold mA; have := hw.2.2.2.2.1; omega) F.hs (ix_in h0 h1 (by omega)) hd ?_
  rw [ix_cl h0 (by omega)]
  have := h p e s m args below meth c H locs arr F hl
  simpa only [List.map_cons, vi, mv, Int32.ofInt_toInt] using this
theorem E_gets {idx : Nat} (hd : decode (iC y) pc = .ok (.getstatic idx, 3)) (hlk : Cond.fieldLink (iY y).cls idx "FibredSpaces$Permuting" "PRODUCTS" "[I" ∈ lw_ok) (h : E G y Z k n (pc + 3) ls (.retAddr 2 :: st) M) : E G y Z k n pc ls st M := by
  intro p e s m args below meth c H locs arr F hl
  exact va_gets F.1 F.2.1 F.wo.2.2.2.2.2.1 F.hs F.own (F.hts _ hlk) (fun _ h9 => h9) hd (h p e s m args below meth c H locs arr F hl)
theorem E_tin {x dflt lo hi off : Int} {offs : Array Int} {len : Nat} (t : Nat) (hd : decode (iC y) pc = .ok (.tableswitch dflt lo hi offs, len)) (hr : -2147483648 ≤ x ∧ x < 2147483648) (h1 : lo ≤ x) (h2 : x ≤ hi) (ho : offs[(x - lo).toNat]? = some off) (ht : (pc : Int) + off = (t : Int)) (h : E G y Z k n t ls st M) : E G y Z k n pc ls (vi x :: st) M := by
  intro p e s m args below meth c H locs arr F hl
  exact lv_tableIn F.1 F.2.1 hd (by rw [i_in hr]; omega) (by rw [i_in hr]; omega) (by rw [i_in hr]; exact ho) ht (h p e s m args below meth c H locs arr F hl)
theorem E_tout {x dflt lo hi : Int} {offs : Array Int} {len : Nat} (t : Nat) (hd : decode (iC y) pc = .ok (.tableswitch dflt lo hi offs, len)) (hr : -2147483648 ≤ x ∧ x < 2147483648) (h1 : x < lo ∨ hi < x) (ht : (pc : Int) + dflt = (t : Int)) (h : E G y Z k n t ls st M) : E G y Z k n pc ls (vi x :: st) M := by
  intro p e s m args below meth c H locs arr F hl
  exact lv_tableOut F.1 F.2.1 hd (by rw [i_in hr]; exact h1) ht (h p e s m args below meth c H locs arr F hl)
end HEAP
