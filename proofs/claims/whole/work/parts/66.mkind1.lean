/-! FibredSpacesModel: the rows of a space of kind 1; torsion, space -/
theorem odF_le : ∀ (d a : Nat), odF d a ≤ a
  | 0, a => Nat.le_refl _
  | d + 1, a => by
    unfold odF
    split
    · exact Nat.le_trans (odF_le d (a / 2)) (Nat.div_le_self _ _)
    · exact Nat.le_refl _
theorem odL_pr : ∀ (l : List Fib), prN (odL l) ≤ prN (ntL l)
  | [] => Nat.le_refl _
  | x :: t => Nat.mul_le_mul (odF_le 5 x.1.toNat) (odL_pr t)
theorem odL_pos {l : List Fib} (h : ∀ x ∈ l, fibOk x) : ∀ a ∈ odL l, 0 < a := fun a ha => by
  obtain ⟨x, hx, rfl⟩ := List.mem_map.mp ha
  have h1 := h x hx
  have := (od_ok ⟨x.1.toNat, by have := h1.1; have := h1.2.1; omega⟩ (by have := h1.1; show 0 < x.1.toNat; omega)).2.1
  simp only at this; omega
theorem prI_ones : ∀ (k : Nat) (l : List Int), prI (onesI k ++ l) = prI l
  | 0, l => rfl
  | k + 1, l => by
    show 1 * prI (onesI k ++ l) = prI l
    rw [prI_ones k l, Int.one_mul]
theorem okL_odd {s : Sp} (hok : spOk s) (k : Nat) : okL (onesI k ++ cst (odL s.2.2.2)) := by
  have hf := hok.2.2.2.2.2.2
  refine ⟨fun x hx => ?_, ?_⟩
  · rcases List.mem_append.mp hx with h | h
    · rw [(List.mem_replicate.mp h).2]; omega
    · obtain ⟨a, ha, rfl⟩ := List.mem_map.mp h
      have := odL_pos hf a ha
      show (1 : Int) ≤ (a : Int); omega
  · rw [prI_ones, prI_cst]
    have h1 := odL_pr s.2.2.2
    have h2 := (pA_6 hok).2
    rw [pA_ntL _ hf] at h2
    omega
theorem cst_app (p q : List Nat) : cst (p ++ q) = cst p ++ cst q := by unfold cst; rw [List.map_append]
theorem cst_ones (k : Nat) : cst (List.replicate k 1) = onesI k := by simp [cst, onesI]
section MKIND1
variable {G : GT} {μ : Mem} {M : HV} {σ : St}
theorem f1_in {i f : Int} {n : Nat} {w5 w6 w7 w8 : Value} {Q : QT} : ∀ (d a : Nat), 0 < a → a < 2 ^ d → a ≤ 1000 → E G mX11_findRows (Zq G mX11_findRows Q) 0 0 269 [.ref 203, vi i, vi (n : Int), vi f, vi (odF d a : Nat), w5, w6, w7, w8] [] (Hp μ) →
    E G mX11_findRows (Zq G mX11_findRows Q) 0 0 253 [.ref 203, vi i, vi (n : Int), vi f, vi (a : Int), w5, w6, w7, w8] [] (Hp μ)
  | 0, a, h0, h1, _, _ => by simp at h1; omega
  | d + 1, a, h0, h1, h2, hk => by
    have e1 : ((a : Nat) : Int).tmod 2 = ((a % 2 : Nat) : Int) := by rw [Int.tmod_eq_emod_of_nonneg (by omega)]; rfl
    have e2 : ((a : Nat) : Int).tdiv 2 = ((a / 2 : Nat) : Int) := by rw [Int.tdiv_eq_ediv_of_nonneg (by omega)]; rfl
    by_cases q : a % 2 = 0
    · rw [show odF (d + 1) a = odF d (a / 2) from if_pos q] at hk
      have ih := f1_in d (a / 2) (by omega) (by rw [Nat.pow_succ] at h1; omega) (by omega) hk
      refine E_iload dX11_findRows_253 rfl ?_
      refine E_iconst dX11_findRows_255 ?_
      refine E_irem dX11_findRows_256 ?_
      rw [e1]
      refine E_if_ne 269 dX11_findRows_257 (fun h257 => ?_) (fun h257 => ?_)
      · -- 269
        exfalso; omega
      · -- 260
        refine E_iload dX11_findRows_260 rfl ?_
        refine E_iconst dX11_findRows_262 ?_
        refine E_idiv dX11_findRows_263 ?_
        rw [e2]
        refine E_istore dX11_findRows_264 ?_
        refine E_goto 253 dX11_findRows_266 ?_
        exact ih
    · rw [show odF (d + 1) a = a from if_neg q] at hk
      refine E_iload dX11_findRows_253 rfl ?_
      refine E_iconst dX11_findRows_255 ?_
      refine E_irem dX11_findRows_256 ?_
      rw [e1]
      refine E_if_ne 269 dX11_findRows_257 (fun h257 => ?_) (fun h257 => ?_)
      · -- 269
        exact hk
      · -- 260
        exfalso; omega
theorem f1_odd {i : Int} {s : Sp} {Q : QT} (hi : isS i) (hs : RepN μ 204 (16 * i) s) (hok : spOk s) (hk : ∀ (μ2 : Mem) (w3 w4 : Value), RepV μ2 211 (onesI (8 - s.2.2.2.length) ++ cst (odL s.2.2.2)) → OffR μ μ2 → E G mX11_findRows (Zq G mX11_findRows Q) 0 0 289 [.ref 203, vi i, vi (s.2.2.2.length : Int), w3, w4, .retAddr 0, .retAddr 0, .retAddr 0, .retAddr 0] [] (Hp μ2)) : ∀ (q p : List Fib) (μ' : Mem) (w4 : Value), p ++ q = s.2.2.2 → RepV μ' 211 (onesI (8 - s.2.2.2.length) ++ cst (odL p) ++ onesI q.length) → OffR μ μ' →
    E G mX11_findRows (Zq G mX11_findRows Q) 0 0 240 [.ref 203, vi i, vi (s.2.2.2.length : Int), vi (p.length : Int), w4, .retAddr 0, .retAddr 0, .retAddr 0, .retAddr 0] [] (Hp μ') := by
  have hb := hok.2.2.2.2.2.1
  intro q
  induction q with
  | nil =>
    intro p μ' w4 h1 h2 h3
    have hl : p.length = s.2.2.2.length := by rw [← h1]; simp
    have hp : p = s.2.2.2 := by rw [← h1]; simp
    have h2' : RepV μ' 211 (onesI (8 - s.2.2.2.length) ++ cst (odL s.2.2.2)) := by rw [← hp] at h2 ⊢; simpa [onesI] using h2
    refine E_iload_n dX11_findRows_240 rfl ?_
    refine E_iload_n dX11_findRows_241 rfl ?_
    refine E_icmp_ge 289 dX11_findRows_242 (fun h242 => ?_) (fun h242 => ?_)
    · -- 289
      exact hk μ' _ _ h2' h3
    · -- 245
      exfalso; omega
  | cons x q ih =>
    intro p μ' w4 h1 h2 h3
    have hl : p.length + 1 + q.length = s.2.2.2.length := by rw [← h1]; simp; omega
    have hx : s.2.2.2[p.length]? = some x := by rw [← h1]; simp
    obtain ⟨x1, x2, x3, x4, -⟩ := hok.2.2.2.2.2.2 x (List.mem_of_getElem? hx)
    obtain ⟨a, ha⟩ : ∃ a : Nat, x.1 = a := ⟨x.1.toNat, by omega⟩
    have eta : x.1.toNat = a := by omega
    have hle := odF_le 5 a
    have hset : RepV (up μ' 211 (8 - (s.2.2.2.length : Int) + (p.length : Int)) (odF 5 a : Nat)) 211 (onesI (8 - s.2.2.2.length) ++ cst (odL (p ++ [x])) ++ onesI q.length) := by
      have := RepV.set (p := onesI (8 - s.2.2.2.length) ++ cst (odL p)) (x := 1) (t := onesI q.length) (odF 5 a : Nat) h2
      rw [show ((onesI (8 - s.2.2.2.length) ++ cst (odL p)).length : Int) = 8 - (s.2.2.2.length : Int) + (p.length : Int) by simp [onesI, cst, odL]; omega] at this
      rw [show cst (odL (p ++ [x])) = cst (odL p) ++ [((odF 5 a : Nat) : Int)] by
        unfold odL; rw [List.map_append, cst_app]; simp [cst, eta]]
      simpa using this
    have t := fun w4 => ih (p ++ [x]) (up μ' 211 (8 - (s.2.2.2.length : Int) + (p.length : Int)) (odF 5 a : Nat)) w4 (by rw [← h1]; simp) hset h3.row
    rw [show ((p ++ [x]).length : Int) = (p.length : Int) + 1 by simp] at t
    have tail : E G mX11_findRows (Zq G mX11_findRows Q) 0 0 269 [.ref 203, vi i, vi (s.2.2.2.length : Int), vi (p.length : Int), vi (odF 5 a : Nat), .retAddr 0, .retAddr 0, .retAddr 0, .retAddr 0] [] (Hp μ') := by
      refine E_aload_n dX11_findRows_269 rfl ?_
      refine GX11_32 sk_203 dX11_findRows_270 ?_
      refine E_bipush dX11_findRows_273 ?_
      refine E_iload_n dX11_findRows_275 rfl ?_
      refine E_isub dX11_findRows_276 ?_
      refine E_iload_n dX11_findRows_277 rfl ?_
      refine E_iadd dX11_findRows_278 ?_
      refine E_iload dX11_findRows_279 rfl ?_
      refine E_i2l dX11_findRows_281 ?_
      refine H_last sk_211 dX11_findRows_282 ?_
      refine E_iinc dX11_findRows_283 rfl ?_
      refine E_goto 240 dX11_findRows_286 ?_
      exact t _
    refine E_iload_n dX11_findRows_240 rfl ?_
    refine E_iload_n dX11_findRows_241 rfl ?_
    refine E_icmp_ge 289 dX11_findRows_242 (fun h242 => ?_) (fun h242 => ?_)
    · -- 289
      exfalso; omega
    · -- 245
      refine E_aload_n dX11_findRows_245 rfl ?_
      refine E_iload_n dX11_findRows_246 rfl ?_
      refine E_iload_n dX11_findRows_247 rfl ?_
      refine E_callVR dX11_findRows_248 lkX11_90 (Hp_get sk_203) (m_a hi (hs.kept h3.now) (by omega) hx) ?_
      refine E_istore dX11_findRows_251 ?_
      rw [ha]
      exact f1_in 5 a (by omega) (by simp; omega) (by omega) tail
theorem f1_mul {i : Int} {s : Sp} {n : Nat} {Y t : List Nat} {w4 w5 w6 w7 w8 : Value} (hn : n ≤ 6) (hY : Y.length = n + 2) (ht : t.length = n + 2) (hYb : ∀ y ∈ Y, y ≤ 729000000) (ht8 : ∀ x ∈ t, x ≤ 8) (hf : (cst (List.zipWith (fun o k => o * 2 ^ k) Y t)).foldl add1 [] = torC s) : ∀ (yr tr yd td : List Nat) (μ' : Mem), yd ++ yr = Y → td ++ tr = t → yd.length = td.length → RepV μ' 213 (cst t) → RepV μ' 211 (cst (List.replicate (6 - n) 1 ++ (List.zipWith (fun o k => o * 2 ^ k) yd td ++ yr))) → OffR μ μ' →
    E G mX11_findRows (Zq G mX11_findRows (V0 (fun μ' => RowQ μ' (torC s) ∧ OffR μ μ'))) 0 0 381 [.ref 203, vi i, vi (n : Int), vi (yd.length : Int), w4, w5, w6, w7, w8] [] (Hp μ')
  | [], tr, yd, td, μ', h1, h2, h3, hT, hR, ho => by
    have e1 : yd = Y := by rw [← h1]; simp
    have htr : tr = [] := by
      have := congrArg List.length h2
      rw [List.length_append, ht] at this
      exact List.length_eq_zero_iff.mp (by rw [← h3, e1, hY] at this; omega)
    have e2 : td = t := by rw [← h2, htr]; simp
    have hl : yd.length = n + 2 := by rw [e1, hY]
    rw [e1, e2, List.append_nil] at hR
    have fe := fr_end (G := G) (μ := μ) (s := s) (i := i) (n := (n : Int)) (w3 := vi (yd.length : Int)) (w4 := w4) (w5 := w5) (w6 := w6) (w7 := w7) (w8 := w8) (μ1 := μ') (R := cst (List.replicate (6 - n) 1 ++ List.zipWith (fun o k => o * 2 ^ k) Y t)) (by simp [cst, hY, ht]; omega) (fun x hx => by
      obtain ⟨a, ha, rfl⟩ := List.mem_map.mp hx
      rcases List.mem_append.mp ha with h | h
      · rw [(List.mem_replicate.mp h).2]; decide
      · obtain ⟨j, hj⟩ := List.mem_iff_getElem?.mp h
        rw [List.getElem?_zipWith] at hj
        cases hy : Y[j]? with
        | none => rw [hy] at hj; simp at hj
        | some y =>
          cases hk : t[j]? with
          | none => rw [hy, hk] at hj; simp at hj
          | some k =>
            rw [hy, hk] at hj
            simp at hj
            have b1 := hYb y (List.mem_of_getElem? hy)
            have b2 := ht8 k (List.mem_of_getElem? hk)
            have b3 : 2 ^ k ≤ 2 ^ 8 := Nat.pow_le_pow_right (by decide) b2
            have b4 : y * 2 ^ k ≤ 729000000 * 2 ^ 8 := Nat.mul_le_mul b1 b3
            rw [hj] at b4
            show -4000000000000000000 ≤ (a : Int) ∧ (a : Int) ≤ 4000000000000000000
            omega) hR (by rw [fold_ones]; exact hf) ho
    refine E_iload_n dX11_findRows_381 rfl ?_
    refine E_iload_n dX11_findRows_382 rfl ?_
    refine E_iconst dX11_findRows_383 ?_
    refine E_iadd dX11_findRows_384 ?_
    refine E_icmp_ge 416 dX11_findRows_385 (fun h385 => ?_) (fun h385 => ?_)
    · -- 416
      exact fe
    · -- 388
      exfalso; omega
  | y :: yr, [], yd, td, μ', h1, h2, h3, hT, hR, ho => by
    exfalso
    have a1 := congrArg List.length h1
    have a2 := congrArg List.length h2
    simp at a1 a2
    omega
  | y :: yr, k :: tr, yd, td, μ', h1, h2, h3, hT, hR, ho => by
    have a1 := congrArg List.length h1
    simp at a1
    have hyb := hYb y (by rw [← h1]; simp)
    have hk8 := ht8 k (by rw [← h2]; simp)
    have hz : (List.zipWith (fun o k => o * 2 ^ k) yd td).length = yd.length := by simp [h3]
    have v1 : μ' 213 (yd.length : Int) = (k : Int) := hT yd.length (k : Int) (by rw [← h2, h3]; simp [cst])
    have hR' : RepV μ' 211 ((cst (List.replicate (6 - n) 1) ++ cst (List.zipWith (fun o k => o * 2 ^ k) yd td)) ++ (y : Int) :: cst yr) := by
      have := hR
      rw [cst_app, cst_app] at this
      rw [List.append_assoc]
      exact this
    have hlen : ((cst (List.replicate (6 - n) 1) ++ cst (List.zipWith (fun o k => o * 2 ^ k) yd td)).length : Int) = 6 - (n : Int) + (yd.length : Int) := by
      simp [cst, h3]; omega
    have v2 : μ' 211 (6 - (n : Int) + (yd.length : Int)) = (y : Int) := by rw [← hlen]; exact hR'.mid
    have hset := hR'.set ((y : Int) * ((2 ^ k : Nat) : Int))
    rw [hlen] at hset
    have hzs : List.zipWith (fun o k => o * 2 ^ k) (yd ++ [y]) (td ++ [k]) = List.zipWith (fun o k => o * 2 ^ k) yd td ++ [y * 2 ^ k] := by
      rw [List.zipWith_append h3]; rfl
    have ih := f1_mul (i := i) (s := s) (w4 := w4) (w5 := w5) (w6 := w6) (w7 := w7) (w8 := w8) hn hY ht hYb ht8 hf yr tr (yd ++ [y]) (td ++ [k]) (up μ' 211 (6 - (n : Int) + (yd.length : Int)) ((y : Int) * ((2 ^ k : Nat) : Int))) (by rw [← h1]; simp) (by rw [← h2]; simp) (by simp [h3]) (hT.kept (up_ne 213 (by decide))) (by
      rw [hzs, cst_app, cst_app, cst_app]
      have e : cst [y * 2 ^ k] = [(y : Int) * ((2 ^ k : Nat) : Int)] := by
        show [((y * 2 ^ k : Nat) : Int)] = _
        rw [Int.natCast_mul]
      rw [e]
      simpa using hset) ho.row
    rw [show ((yd ++ [y]).length : Int) = (yd.length : Int) + 1 by simp] at ih
    have e1 := shl64_ok ⟨k, by omega⟩
    refine E_iload_n dX11_findRows_381 rfl ?_
    refine E_iload_n dX11_findRows_382 rfl ?_
    refine E_iconst dX11_findRows_383 ?_
    refine E_iadd dX11_findRows_384 ?_
    refine E_icmp_ge 416 dX11_findRows_385 (fun h385 => ?_) (fun h385 => ?_)
    · -- 416
      exfalso; omega
    · -- 388
      refine E_aload_n dX11_findRows_388 rfl ?_
      refine GX11_32 sk_203 dX11_findRows_389 ?_
      refine E_bipush dX11_findRows_392 ?_
      refine E_iload_n dX11_findRows_394 rfl ?_
      refine E_isub dX11_findRows_395 ?_
      refine E_iload_n dX11_findRows_396 rfl ?_
      refine E_iadd dX11_findRows_397 ?_
      refine E_dup2 dX11_findRows_398 ?_
      refine H_lald sk_211 dX11_findRows_399 ?_
      rw [v2]
      refine E_lconst1 dX11_findRows_400 ?_
      refine E_aload_n dX11_findRows_401 rfl ?_
      refine GX11_39 sk_203 dX11_findRows_402 ?_
      refine E_iload_n dX11_findRows_405 rfl ?_
      refine H_iald sk_213 dX11_findRows_406 ?_
      rw [v1]
      refine E_lshl ((2 ^ k : Nat)) dX11_findRows_407 (e1) ?_
      refine E_lmul dX11_findRows_408 ?_
      refine H_last sk_211 dX11_findRows_409 ?_
      refine E_iinc dX11_findRows_410 rfl ?_
      refine E_goto 381 dX11_findRows_413 ?_
      exact ih
theorem fr_1 {i : Int} {s : Sp} {w : Value} {μ1 : Mem} (hi : isS i) (hs : RepN μ 204 (16 * i) s) (hok : spOk s) (h0 : ¬ s.1 = 0) (ho : OffR μ μ1) (hv : RepV μ1 211 (onesI 8)) :
    E G mX11_findRows (Zq G mX11_findRows (V0 (fun μ' => RowQ μ' (torC s) ∧ OffR μ μ'))) 0 0 238 [.ref 203, vi i, vi (s.2.2.2.length : Int), w, .retAddr 0, .retAddr 0, .retAddr 0, .retAddr 0, .retAddr 0] [] (Hp μ1) := by
  have hb := hok.2.2.2.2.2.1
  have hf := hok.2.2.2.2.2.2
  have hol : (odL s.2.2.2).length = s.2.2.2.length := by simp [odL]
  have e8 : onesI 8 = onesI (8 - s.2.2.2.length) ++ cst (odL []) ++ onesI s.2.2.2.length := by
    simp only [odL, List.map_nil, cst, List.append_nil, onesI]
    rw [List.replicate_append_replicate]; congr 1; omega
  refine E_iconst dX11_findRows_238 (E_istore_n dX11_findRows_239 ?_)
  refine f1_odd (μ := μ) hi hs hok (fun μ2 w3 w4 g1 g2 => ?_) s.2.2.2 [] μ1 _ rfl (by rw [← e8]; exact hv) ho
  have hp8 : ((onesI (8 - s.2.2.2.length)).length : Int) = 8 - (s.2.2.2.length : Int) := by simp [onesI]; omega
  have hout := fr_outer (G := G) (μ := μ) (i := i) (m := s.2.2.2.length) (w7 := .retAddr 0) (w8 := .retAddr 0) (Q := V0 (fun μ' => RowQ μ' (torC s) ∧ OffR μ μ')) s.2.2.2.length (cst (odL s.2.2.2)) (onesI (8 - s.2.2.2.length)) (.retAddr 0) w4 μ2 (by simp [cst, hol]) (by simp [onesI, cst, hol]; omega) g1 (okL_odd hok _) g2 (fun μ3 w3 w4 w5 k1 k2 k3 => by
    have hs3 := hs.kept k3.now
    rw [ch_cast] at k1 k2
    refine E_aload_n dX11_findRows_374 rfl (E_iload_n dX11_findRows_375 rfl (E_callVV dX11_findRows_376 lkX11_208 (Hp_get sk_203) (m_findTwos hi hs3 hok) (fun μ4 g4 => ?_)))
    obtain ⟨o4, t, ⟨t1, t2, t3, t4⟩, tv⟩ := g4
    have hcl := ch_len s.2.2.2.length (odL s.2.2.2) hol
    have hR4 : RepV μ4 211 (cst (List.replicate (6 - s.2.2.2.length) 1 ++ (List.zipWith (fun o k => o * 2 ^ k) [] [] ++ (1 :: 1 :: chN s.2.2.2.length (odL s.2.2.2))))) := by
      have := k1.kept (o4 211 (by decide) (by decide))
      rw [show cst (List.replicate (6 - s.2.2.2.length) 1 ++ (List.zipWith (fun o k => o * 2 ^ k) [] [] ++ (1 :: 1 :: chN s.2.2.2.length (odL s.2.2.2)))) = onesI (8 - s.2.2.2.length) ++ cst (chN s.2.2.2.length (odL s.2.2.2)) by
        show cst (List.replicate (6 - s.2.2.2.length) 1 ++ (List.replicate 2 1 ++ chN s.2.2.2.length (odL s.2.2.2))) = _
        rw [← List.append_assoc, List.replicate_append_replicate, cst_app, cst_ones]
        congr 2; omega]
      exact this
    refine E_iconst dX11_findRows_379 (E_istore_n dX11_findRows_380 ?_)
    exact f1_mul (μ := μ) (n := s.2.2.2.length) (Y := 1 :: 1 :: chN s.2.2.2.length (odL s.2.2.2)) (t := t) hb (by simp [hcl]) t1 (fun y hy => by
      rcases List.mem_cons.mp hy with rfl | hy
      · decide
      · rcases List.mem_cons.mp hy with rfl | hy
        · decide
        · have := k2.le (x := (y : Int)) (List.mem_append_right _ (List.mem_map.mpr ⟨y, hy, rfl⟩))
          omega) t3 (tor_1 hok h0 t1 t2 t3 t4).symm (1 :: 1 :: chN s.2.2.2.length (odL s.2.2.2)) t [] [] μ4 rfl rfl rfl tv hR4 (k3.tr o4.r))
  rw [hp8] at hout
  refine E_bipush dX11_findRows_289 ?_
  refine E_iload_n dX11_findRows_291 rfl ?_
  refine E_isub dX11_findRows_292 ?_
  refine E_istore_n dX11_findRows_293 ?_
  exact hout
theorem m_findRows {i : Int} {s : Sp} (hi : isS i) (hs : RepN μ 204 (16 * i) s) (hok : spOk s) : Ctr G mX11_findRows [.ref 203, vi i] (Hp μ) (V0 (fun μ' => RowQ μ' (torC s) ∧ OffR μ μ')) := by
  refine Ctr.of ?_
  have j1 := hi.1
  have j2 := hi.2
  have o0 := hok.1
  refine E_aload_n dX11_findRows_0 rfl ?_
  refine E_iload_n dX11_findRows_1 rfl ?_
  refine E_callVR dX11_findRows_2 lkX11_100 (Hp_get sk_203) (m_fibres hi hs) ?_
  refine E_istore_n dX11_findRows_5 ?_
  refine E_iconst dX11_findRows_6 ?_
  refine E_istore_n dX11_findRows_7 ?_
  refine fr_ones (μ := μ) (fun μ1 w g1 g2 => ?_) 8 0 μ (by omega) (by intro k x hx; simp [onesI] at hx) OffR.rf
  have hs1 := hs.kept g2.now
  refine E_aload_n dX11_findRows_27 rfl (GX11_7 sk_203 dX11_findRows_28 (E_bipush dX11_findRows_31 (E_iload_n dX11_findRows_33 rfl (E_imul dX11_findRows_34 (E_iconst dX11_findRows_35 (E_iadd dX11_findRows_36 ?_))))))
  rw [Int.add_zero]
  refine H_iald sk_204 dX11_findRows_37 ?_
  rw [hs1.1]
  exact E_if_ne 238 dX11_findRows_38 (fun q => fr_1 hi hs hok q g2 g1) (fun q => fr_0 hi hs hok q g2)
end MKIND1
