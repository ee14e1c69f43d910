/-! the law's body -/
theorem RepS.below {μ μ' : Mem} {r : Nat} {s : Sp} (h : RepS μ r s) (e : ∀ q : Nat, q < 203 → μ' q = μ q) (hr : r + 2 < 203) : RepS μ' r s := by
  unfold RepS RepL at *
  rw [e r (by omega), e (r + 1) (by omega), e (r + 2) (by omega)]
  exact h
theorem RepSh.below {μ μ' : Mem} {r : Nat} {sh : Sh} (h : RepSh μ r sh) (e : ∀ q : Nat, q < 203 → μ' q = μ q) (hr : r + 20 ≤ 203) : RepSh μ' r sh := fun i hi => (h i hi).below e (by omega)
theorem RepC.below {μ μ' : Mem} {σ : St} (h : RepC μ σ) (e : ∀ q : Nat, q < 203 → μ' q = μ q) : RepC μ' σ := by
  obtain ⟨h1, ⟨nx, a1, a2, a3, a4, a5⟩, h3, ⟨b1, b2, b3⟩, ⟨d1, d2, d3, d4⟩⟩ := h
  refine ⟨h1.below e (by omega), ⟨nx, a1, by rw [e 21 (by omega)]; exact a2, by rw [e 21 (by omega)]; exact a3, a4, fun j sh hj => (a5 j sh hj).below e (by omega)⟩, fun k hk => ?_, ⟨by rw [e 145 (by omega)]; exact b1, b2, b3.kept (e 146 (by omega))⟩, ⟨by rw [e 147 (by omega)]; exact d1, d2, d3.kept (e 148 (by omega)), d4.kept (e 149 (by omega))⟩⟩
  obtain ⟨c1, c2⟩ := h3 k hk
  refine ⟨fun q => by rw [e 144 (by omega)]; exact c1 q, fun g hg => ?_⟩
  obtain ⟨c3, c4⟩ := c2 g hg
  exact ⟨by rw [e 144 (by omega)]; exact c3, c4.below e (by omega)⟩
theorem RepM.above {μ μ' : Mem} {σ : St} (h : RepM μ σ) (e : ∀ q : Nat, 203 ≤ q → μ' q = μ q) : RepM μ' σ := by
  obtain ⟨h1, h2, h3, h4, h5, h6⟩ := h
  exact ⟨h1.kept (e 204 (by omega)), h2.kept (by rw [e 203 (by omega)]) (e 205 (by omega)), h3.kept (e 206 (by omega)) (e 207 (by omega)), h4.kept (by rw [e 203 (by omega)]) (e 210 (by omega)), h5.kept (by rw [e 203 (by omega)]) (e 216 (by omega)) (e 217 (by omega)), by rw [e 215 (by omega)]; exact h6⟩
theorem E_icmp_same {G : GT} {y : MI} {Z : ZT} {k n pc : Nat} {ls st : List Value} {M : HV} {x a : Int} (t : Nat) (hd : decode (iC y) pc = .ok (.if_icmp .eq a, 3)) (kt : E G y Z k n t ls st M) (ht : (pc : Int) + a = (t : Int) := by decide) : E G y Z k n pc ls (vi x :: vi x :: st) M := by
  intro p e s m args below meth c H locs arr F hl
  obtain ⟨hx, hb, -⟩ := id F
  exact lv_icmp_eq hx hb hd ht (fun _ => kt p e s m args below meth c H locs arr F hl) (fun hc => absurd rfl hc)
theorem vl_wrap (x : Int) : vl x = vl (Int64.ofInt x).toInt := by unfold vl; rw [Int64.ofInt_toInt]
theorem E_lcmp_same {G : GT} {y : MI} {Z : ZT} {k n pc : Nat} {ls st : List Value} {M : HV} {x a : Int} (t : Nat) (hd : decode (iC y) pc = .ok (.lcmp, 1)) (hd2 : decode (iC y) (pc + 1) = .ok (.ifCond .eq a, 3)) (kt : E G y Z k n t ls st M) (ht : ((pc + 1 : Nat) : Int) + a = (t : Int) := by decide) : E G y Z k n pc ls (vl x :: vl x :: st) M := by
  rw [vl_wrap x]
  have h1 := Int64.le_toInt (Int64.ofInt x)
  have h2 := Int64.toInt_lt (Int64.ofInt x)
  exact E_lcmp_eq t hd hd2 (fun _ => kt) (fun q => absurd rfl q) (by omega) (by omega) ht
def Xs (G : GT) (i : Int) : Int := (gX G i.toNat).toInt
theorem xr {G : GT} (i : Int) : -2147483648 ≤ Xs G i ∧ Xs G i < 2147483648 := by
  unfold Xs
  have h1 := Int32.le_toInt (gX G i.toNat)
  have h2 := Int32.toInt_lt (gX G i.toNat)
  omega
def mN (nm : String) : MI := (⟨RL, nm, x.desc⟩, code, 4, ret, 10, 356, 600000, 7302250)
def lsL (i : Int) : List Value := [.retAddr 1, .ref 0, .ref 203, vi i]
/-- what both sides hold -/
def Inv (μ : Mem) (σ : St) : Prop := stG σ ∧ RepC μ σ ∧ RepM μ σ
section LAW
variable {nm : String} {G : GT} {Z : ZT} {i : Int} {μ : Mem} {σ : St}
theorem L_arg {c : Int} {pc k n : Nat} {st : List Value} {M : HV} (hi : 0 ≤ i ∧ i + 4 ≤ gN G) (hN : gN G ≤ 2048) (d1 : decode (iC (mN nm)) pc = .ok (.aload_n 0, 1)) (d2 : decode (iC (mN nm)) (pc + 1) = .ok (.iload_n 3, 1)) (d3 : decode (iC (mN nm)) (pc + 1 + 1) = .ok (.iconst c, 1)) (d4 : decode (iC (mN nm)) (pc + 1 + 1 + 1) = .ok (.iadd, 1)) (d5 : decode (iC (mN nm)) (pc + 1 + 1 + 1 + 1) = .ok (.iaload, 1))
    (h : E G (mN nm) Z k n (pc + 1 + 1 + 1 + 1 + 1) (lsL i) (vi (Xs G (i + c)) :: st) M) (hc : 0 ≤ c ∧ c ≤ 3 := by omega) : E G (mN nm) Z k n pc (lsL i) st M :=
  E_aload_s d1 rfl (E_iload_n d2 rfl (E_iconst d3 (E_iadd d4 (E_sld d5 (by omega) (by omega) (by omega) h))))
theorem law_type (ih : ∀ μ' σ', Inv μ' σ' → E G (mN nm) Z 219 2466 944 (lsL i) [] (Hp μ')) (hi : 0 ≤ i ∧ i + 4 ≤ gN G) (hN : gN G ≤ 2048) (hI : Inv μ σ) : E G (mN nm) Z 219 2466 156 (lsL i) [] (Hp μ) := by
  obtain ⟨hG, hC, hM⟩ := hI
  refine E_aload_n dL_law_156 rfl ?_
  refine L_arg hi hN dL_law_157 dL_law_158 dL_law_159 dL_law_160 dL_law_161 ?_
  refine E_callV dL_law_162 lkL_13 (Hp_get sk_0) (c_type (xr _) hC hG.1) (fun v M' q => ?_) (hr1 := Nat.le_of_ble_eq_true rfl) (hr2 := Nat.le_of_ble_eq_true rfl)
  obtain ⟨rfl, μ1, rfl, hC1, e1⟩ := q
  have hM1 := hM.above e1
  refine E_aload_n dL_law_165 rfl ?_
  refine L_arg hi hN dL_law_166 dL_law_167 dL_law_168 dL_law_169 dL_law_170 ?_
  refine E_callV dL_law_171 lkL_17 (Hp_get sk_203) (m_type (xr _) hM1) (fun v M' q => ?_) (hr1 := Nat.le_of_ble_eq_true rfl) (hr2 := Nat.le_of_ble_eq_true rfl)
  obtain ⟨rfl, μ2, rfl, hM2, e2⟩ := q
  exact E_icmp_same 944 dL_law_174 (ih μ2 _ ⟨(g_type hG), hC1.below e2, hM2⟩)
theorem law_clear (ih : ∀ μ' σ', Inv μ' σ' → E G (mN nm) Z 219 2466 944 (lsL i) [] (Hp μ')) (hi : 0 ≤ i ∧ i + 4 ≤ gN G) (hN : gN G ≤ 2048) (hI : Inv μ σ) : E G (mN nm) Z 219 2466 179 (lsL i) [] (Hp μ) := by
  obtain ⟨hG, hC, hM⟩ := hI
  refine E_aload_n dL_law_179 rfl ?_
  refine E_callV dL_law_180 lkL_18 (Hp_get sk_0) (c_clear hC) (fun v M' q => ?_) (hr1 := Nat.le_of_ble_eq_true rfl) (hr2 := Nat.le_of_ble_eq_true rfl)
  obtain ⟨rfl, μ1, rfl, hC1, e1⟩ := q
  have hM1 := hM.above e1
  refine E_aload_n dL_law_183 rfl ?_
  refine E_callV dL_law_184 lkL_22 (Hp_get sk_203) (m_clear hM1) (fun v M' q => ?_) (hr1 := Nat.le_of_ble_eq_true rfl) (hr2 := Nat.le_of_ble_eq_true rfl)
  obtain ⟨rfl, μ2, rfl, hM2, e2⟩ := q
  exact E_icmp_same 944 dL_law_187 (ih μ2 _ ⟨(g_clear hG), hC1.below e2, hM2⟩)
theorem law_tells (ih : ∀ μ' σ', Inv μ' σ' → E G (mN nm) Z 219 2466 944 (lsL i) [] (Hp μ')) (hi : 0 ≤ i ∧ i + 4 ≤ gN G) (hN : gN G ≤ 2048) (hI : Inv μ σ) : E G (mN nm) Z 219 2466 192 (lsL i) [] (Hp μ) := by
  obtain ⟨hG, hC, hM⟩ := hI
  refine E_aload_n dL_law_192 rfl ?_
  refine L_arg hi hN dL_law_193 dL_law_194 dL_law_195 dL_law_196 dL_law_197 ?_
  refine E_callV dL_law_198 lkL_23 (Hp_get sk_0) (c_tells (xr _) hC hG.1) (fun v M' q => ?_) (hr1 := Nat.le_of_ble_eq_true rfl) (hr2 := Nat.le_of_ble_eq_true rfl)
  obtain ⟨rfl, μ1, rfl, hC1, e1⟩ := q
  have hM1 := hM.above e1
  refine E_aload_n dL_law_201 rfl ?_
  refine L_arg hi hN dL_law_202 dL_law_203 dL_law_204 dL_law_205 dL_law_206 ?_
  refine E_callV dL_law_207 lkL_26 (Hp_get sk_203) (m_tells (xr _) hM1 hG) (fun v M' q => ?_) (hr1 := Nat.le_of_ble_eq_true rfl) (hr2 := Nat.le_of_ble_eq_true rfl)
  obtain ⟨rfl, μ2, rfl, hM2, e2⟩ := q
  exact E_icmp_same 944 dL_law_210 (ih μ2 _ ⟨(g_tells hG), hC1.below e2, hM2⟩)
theorem law_mirrors (ih : ∀ μ' σ', Inv μ' σ' → E G (mN nm) Z 219 2466 944 (lsL i) [] (Hp μ')) (hi : 0 ≤ i ∧ i + 4 ≤ gN G) (hN : gN G ≤ 2048) (hI : Inv μ σ) : E G (mN nm) Z 219 2466 215 (lsL i) [] (Hp μ) := by
  obtain ⟨hG, hC, hM⟩ := hI
  refine E_aload_n dL_law_215 rfl ?_
  refine L_arg hi hN dL_law_216 dL_law_217 dL_law_218 dL_law_219 dL_law_220 ?_
  refine E_callV dL_law_221 lkL_27 (Hp_get sk_0) (c_mirrors (xr _) hC hG.1) (fun v M' q => ?_) (hr1 := Nat.le_of_ble_eq_true rfl) (hr2 := Nat.le_of_ble_eq_true rfl)
  obtain ⟨rfl, μ1, rfl, hC1, e1⟩ := q
  have hM1 := hM.above e1
  refine E_aload_n dL_law_224 rfl ?_
  refine L_arg hi hN dL_law_225 dL_law_226 dL_law_227 dL_law_228 dL_law_229 ?_
  refine E_callV dL_law_230 lkL_30 (Hp_get sk_203) (m_mirrors (xr _) hM1 hG.1) (fun v M' q => ?_) (hr1 := Nat.le_of_ble_eq_true rfl) (hr2 := Nat.le_of_ble_eq_true rfl)
  obtain ⟨rfl, μ2, rfl, hM2, e2⟩ := q
  exact E_icmp_same 944 dL_law_233 (ih μ2 _ ⟨(g_mirrors hG), hC1.below e2, hM2⟩)
theorem law_joins (ih : ∀ μ' σ', Inv μ' σ' → E G (mN nm) Z 219 2466 944 (lsL i) [] (Hp μ')) (hi : 0 ≤ i ∧ i + 4 ≤ gN G) (hN : gN G ≤ 2048) (hI : Inv μ σ) : E G (mN nm) Z 219 2466 238 (lsL i) [] (Hp μ) := by
  obtain ⟨hG, hC, hM⟩ := hI
  refine E_aload_n dL_law_238 rfl ?_
  refine L_arg hi hN dL_law_239 dL_law_240 dL_law_241 dL_law_242 dL_law_243 ?_
  refine L_arg hi hN dL_law_244 dL_law_245 dL_law_246 dL_law_247 dL_law_248 ?_
  refine L_arg hi hN dL_law_249 dL_law_250 dL_law_251 dL_law_252 dL_law_253 ?_
  refine E_callV dL_law_254 lkL_31 (Hp_get sk_0) (c_joins (xr _) (xr _) (xr _) hC hG.1) (fun v M' q => ?_) (hr1 := Nat.le_of_ble_eq_true rfl) (hr2 := Nat.le_of_ble_eq_true rfl)
  obtain ⟨rfl, μ1, rfl, hC1, e1⟩ := q
  have hM1 := hM.above e1
  refine E_aload_n dL_law_257 rfl ?_
  refine L_arg hi hN dL_law_258 dL_law_259 dL_law_260 dL_law_261 dL_law_262 ?_
  refine L_arg hi hN dL_law_263 dL_law_264 dL_law_265 dL_law_266 dL_law_267 ?_
  refine L_arg hi hN dL_law_268 dL_law_269 dL_law_270 dL_law_271 dL_law_272 ?_
  refine E_callV dL_law_273 lkL_35 (Hp_get sk_203) (m_joins (xr _) (xr _) (xr _) hM1 hG.1) (fun v M' q => ?_) (hr1 := Nat.le_of_ble_eq_true rfl) (hr2 := Nat.le_of_ble_eq_true rfl)
  obtain ⟨rfl, μ2, rfl, hM2, e2⟩ := q
  exact E_icmp_same 944 dL_law_276 (ih μ2 _ ⟨(g_joins hG), hC1.below e2, hM2⟩)
theorem law_fills (ih : ∀ μ' σ', Inv μ' σ' → E G (mN nm) Z 219 2466 944 (lsL i) [] (Hp μ')) (hi : 0 ≤ i ∧ i + 4 ≤ gN G) (hN : gN G ≤ 2048) (hI : Inv μ σ) : E G (mN nm) Z 219 2466 281 (lsL i) [] (Hp μ) := by
  obtain ⟨hG, hC, hM⟩ := hI
  refine E_aload_n dL_law_281 rfl ?_
  refine L_arg hi hN dL_law_282 dL_law_283 dL_law_284 dL_law_285 dL_law_286 ?_
  refine L_arg hi hN dL_law_287 dL_law_288 dL_law_289 dL_law_290 dL_law_291 ?_
  refine L_arg hi hN dL_law_292 dL_law_293 dL_law_294 dL_law_295 dL_law_296 ?_
  refine E_callV dL_law_297 lkL_36 (Hp_get sk_0) (c_fills (xr _) (xr _) (xr _) hC hG.1) (fun v M' q => ?_) (hr1 := Nat.le_of_ble_eq_true rfl) (hr2 := Nat.le_of_ble_eq_true rfl)
  obtain ⟨rfl, μ1, rfl, hC1, e1⟩ := q
  have hM1 := hM.above e1
  refine E_aload_n dL_law_300 rfl ?_
  refine L_arg hi hN dL_law_301 dL_law_302 dL_law_303 dL_law_304 dL_law_305 ?_
  refine L_arg hi hN dL_law_306 dL_law_307 dL_law_308 dL_law_309 dL_law_310 ?_
  refine L_arg hi hN dL_law_311 dL_law_312 dL_law_313 dL_law_314 dL_law_315 ?_
  refine E_callV dL_law_316 lkL_39 (Hp_get sk_203) (m_fills (xr _) (xr _) (xr _) hM1 hG) (fun v M' q => ?_) (hr1 := Nat.le_of_ble_eq_true rfl) (hr2 := Nat.le_of_ble_eq_true rfl)
  obtain ⟨rfl, μ2, rfl, hM2, e2⟩ := q
  exact E_icmp_same 944 dL_law_319 (ih μ2 _ ⟨(g_fills hG), hC1.below e2, hM2⟩)
theorem law_drills (ih : ∀ μ' σ', Inv μ' σ' → E G (mN nm) Z 219 2466 944 (lsL i) [] (Hp μ')) (hi : 0 ≤ i ∧ i + 4 ≤ gN G) (hN : gN G ≤ 2048) (hI : Inv μ σ) : E G (mN nm) Z 219 2466 324 (lsL i) [] (Hp μ) := by
  obtain ⟨hG, hC, hM⟩ := hI
  refine E_aload_n dL_law_324 rfl ?_
  refine L_arg hi hN dL_law_325 dL_law_326 dL_law_327 dL_law_328 dL_law_329 ?_
  refine L_arg hi hN dL_law_330 dL_law_331 dL_law_332 dL_law_333 dL_law_334 ?_
  refine E_callV dL_law_335 lkL_40 (Hp_get sk_0) (c_drills (xr _) (xr _) hC hG.1) (fun v M' q => ?_) (hr1 := Nat.le_of_ble_eq_true rfl) (hr2 := Nat.le_of_ble_eq_true rfl)
  obtain ⟨rfl, μ1, rfl, hC1, e1⟩ := q
  have hM1 := hM.above e1
  refine E_aload_n dL_law_338 rfl ?_
  refine L_arg hi hN dL_law_339 dL_law_340 dL_law_341 dL_law_342 dL_law_343 ?_
  refine L_arg hi hN dL_law_344 dL_law_345 dL_law_346 dL_law_347 dL_law_348 ?_
  refine E_callV dL_law_349 lkL_44 (Hp_get sk_203) (m_drills (xr _) (xr _) hM1 hG.1) (fun v M' q => ?_) (hr1 := Nat.le_of_ble_eq_true rfl) (hr2 := Nat.le_of_ble_eq_true rfl)
  obtain ⟨rfl, μ2, rfl, hM2, e2⟩ := q
  exact E_icmp_same 944 dL_law_352 (ih μ2 _ ⟨(g_drills hG), hC1.below e2, hM2⟩)
theorem law_turnsOn (ih : ∀ μ' σ', Inv μ' σ' → E G (mN nm) Z 219 2466 944 (lsL i) [] (Hp μ')) (hi : 0 ≤ i ∧ i + 4 ≤ gN G) (hN : gN G ≤ 2048) (hI : Inv μ σ) : E G (mN nm) Z 219 2466 357 (lsL i) [] (Hp μ) := by
  obtain ⟨hG, hC, hM⟩ := hI
  refine E_aload_n dL_law_357 rfl ?_
  refine L_arg hi hN dL_law_358 dL_law_359 dL_law_360 dL_law_361 dL_law_362 ?_
  refine L_arg hi hN dL_law_363 dL_law_364 dL_law_365 dL_law_366 dL_law_367 ?_
  refine E_callV dL_law_368 lkL_45 (Hp_get sk_0) (c_turnsOn (xr _) (xr _) hC hG.1) (fun v M' q => ?_) (hr1 := Nat.le_of_ble_eq_true rfl) (hr2 := Nat.le_of_ble_eq_true rfl)
  obtain ⟨rfl, μ1, rfl, hC1, e1⟩ := q
  have hM1 := hM.above e1
  refine E_aload_n dL_law_371 rfl ?_
  refine L_arg hi hN dL_law_372 dL_law_373 dL_law_374 dL_law_375 dL_law_376 ?_
  refine L_arg hi hN dL_law_377 dL_law_378 dL_law_379 dL_law_380 dL_law_381 ?_
  refine E_callV dL_law_382 lkL_48 (Hp_get sk_203) (m_turnsOn (xr _) (xr _) hM1 hG.1) (fun v M' q => ?_) (hr1 := Nat.le_of_ble_eq_true rfl) (hr2 := Nat.le_of_ble_eq_true rfl)
  obtain ⟨rfl, μ2, rfl, hM2, e2⟩ := q
  exact E_icmp_same 944 dL_law_385 (ih μ2 _ ⟨(g_turnsOn hG), hC1.below e2, hM2⟩)
theorem law_unwraps (ih : ∀ μ' σ', Inv μ' σ' → E G (mN nm) Z 219 2466 944 (lsL i) [] (Hp μ')) (hi : 0 ≤ i ∧ i + 4 ≤ gN G) (hN : gN G ≤ 2048) (hI : Inv μ σ) : E G (mN nm) Z 219 2466 390 (lsL i) [] (Hp μ) := by
  obtain ⟨hG, hC, hM⟩ := hI
  refine E_aload_n dL_law_390 rfl ?_
  refine L_arg hi hN dL_law_391 dL_law_392 dL_law_393 dL_law_394 dL_law_395 ?_
  refine L_arg hi hN dL_law_396 dL_law_397 dL_law_398 dL_law_399 dL_law_400 ?_
  refine E_callV dL_law_401 lkL_49 (Hp_get sk_0) (c_unwraps (xr _) (xr _) hC hG.1) (fun v M' q => ?_) (hr1 := Nat.le_of_ble_eq_true rfl) (hr2 := Nat.le_of_ble_eq_true rfl)
  obtain ⟨rfl, μ1, rfl, hC1, e1⟩ := q
  have hM1 := hM.above e1
  refine E_aload_n dL_law_404 rfl ?_
  refine L_arg hi hN dL_law_405 dL_law_406 dL_law_407 dL_law_408 dL_law_409 ?_
  refine L_arg hi hN dL_law_410 dL_law_411 dL_law_412 dL_law_413 dL_law_414 ?_
  refine E_callV dL_law_415 lkL_52 (Hp_get sk_203) (m_unwraps (xr _) (xr _) hM1 hG.1) (fun v M' q => ?_) (hr1 := Nat.le_of_ble_eq_true rfl) (hr2 := Nat.le_of_ble_eq_true rfl)
  obtain ⟨rfl, μ2, rfl, hM2, e2⟩ := q
  exact E_icmp_same 944 dL_law_418 (ih μ2 _ ⟨(g_unwraps hG), hC1.below e2, hM2⟩)
theorem law_unrolls (ih : ∀ μ' σ', Inv μ' σ' → E G (mN nm) Z 219 2466 944 (lsL i) [] (Hp μ')) (hi : 0 ≤ i ∧ i + 4 ≤ gN G) (hN : gN G ≤ 2048) (hI : Inv μ σ) : E G (mN nm) Z 219 2466 423 (lsL i) [] (Hp μ) := by
  obtain ⟨hG, hC, hM⟩ := hI
  refine E_aload_n dL_law_423 rfl ?_
  refine L_arg hi hN dL_law_424 dL_law_425 dL_law_426 dL_law_427 dL_law_428 ?_
  refine L_arg hi hN dL_law_429 dL_law_430 dL_law_431 dL_law_432 dL_law_433 ?_
  refine E_callV dL_law_434 lkL_53 (Hp_get sk_0) (c_unrolls (xr _) (xr _) hC hG.1) (fun v M' q => ?_) (hr1 := Nat.le_of_ble_eq_true rfl) (hr2 := Nat.le_of_ble_eq_true rfl)
  obtain ⟨rfl, μ1, rfl, hC1, e1⟩ := q
  have hM1 := hM.above e1
  refine E_aload_n dL_law_437 rfl ?_
  refine L_arg hi hN dL_law_438 dL_law_439 dL_law_440 dL_law_441 dL_law_442 ?_
  refine L_arg hi hN dL_law_443 dL_law_444 dL_law_445 dL_law_446 dL_law_447 ?_
  refine E_callV dL_law_448 lkL_56 (Hp_get sk_203) (m_unrolls (xr _) (xr _) hM1 hG.1) (fun v M' q => ?_) (hr1 := Nat.le_of_ble_eq_true rfl) (hr2 := Nat.le_of_ble_eq_true rfl)
  obtain ⟨rfl, μ2, rfl, hM2, e2⟩ := q
  exact E_icmp_same 944 dL_law_451 (ih μ2 _ ⟨(g_unrolls hG), hC1.below e2, hM2⟩)
theorem law_undo (ih : ∀ μ' σ', Inv μ' σ' → E G (mN nm) Z 219 2466 944 (lsL i) [] (Hp μ')) (hi : 0 ≤ i ∧ i + 4 ≤ gN G) (hN : gN G ≤ 2048) (hI : Inv μ σ) : E G (mN nm) Z 219 2466 456 (lsL i) [] (Hp μ) := by
  obtain ⟨hG, hC, hM⟩ := hI
  refine E_aload_n dL_law_456 rfl ?_
  refine E_callV dL_law_457 lkL_57 (Hp_get sk_0) (c_undo hC hG.1) (fun v M' q => ?_) (hr1 := Nat.le_of_ble_eq_true rfl) (hr2 := Nat.le_of_ble_eq_true rfl)
  obtain ⟨rfl, μ1, rfl, hC1, e1⟩ := q
  have hM1 := hM.above e1
  refine E_aload_n dL_law_460 rfl ?_
  refine E_callV dL_law_461 lkL_60 (Hp_get sk_203) (m_undo hM1 hG.1) (fun v M' q => ?_) (hr1 := Nat.le_of_ble_eq_true rfl) (hr2 := Nat.le_of_ble_eq_true rfl)
  obtain ⟨rfl, μ2, rfl, hM2, e2⟩ := q
  exact E_icmp_same 944 dL_law_464 (ih μ2 _ ⟨(g_undo hG), hC1.below e2, hM2⟩)
theorem law_space (ih : ∀ μ' σ', Inv μ' σ' → E G (mN nm) Z 219 2466 944 (lsL i) [] (Hp μ')) (hi : 0 ≤ i ∧ i + 4 ≤ gN G) (hN : gN G ≤ 2048) (hI : Inv μ σ) : E G (mN nm) Z 219 2466 469 (lsL i) [] (Hp μ) := by
  obtain ⟨hG, hC, hM⟩ := hI
  refine E_aload_n dL_law_469 rfl ?_
  refine L_arg hi hN dL_law_470 dL_law_471 dL_law_472 dL_law_473 dL_law_474 ?_
  refine L_arg hi hN dL_law_475 dL_law_476 dL_law_477 dL_law_478 dL_law_479 ?_
  refine E_callV dL_law_480 lkL_61 (Hp_get sk_0) (c_space (xr _) (xr _) hC hG.1) (fun v M' q => ?_) (hr1 := Nat.le_of_ble_eq_true rfl) (hr2 := Nat.le_of_ble_eq_true rfl)
  obtain ⟨rfl, μ1, rfl, hC1, e1⟩ := q
  have hM1 := hM.above e1
  refine E_aload_n dL_law_483 rfl ?_
  refine L_arg hi hN dL_law_484 dL_law_485 dL_law_486 dL_law_487 dL_law_488 ?_
  refine L_arg hi hN dL_law_489 dL_law_490 dL_law_491 dL_law_492 dL_law_493 ?_
  refine E_callV dL_law_494 lkL_65 (Hp_get sk_203) (m_space (xr _) (xr _) hM1 hG.1) (fun v M' q => ?_) (hr1 := Nat.le_of_ble_eq_true rfl) (hr2 := Nat.le_of_ble_eq_true rfl)
  obtain ⟨rfl, μ2, rfl, hM2, e2⟩ := q
  exact E_lcmp_same 944 dL_law_497 dL_law_498 (ih μ2 _ ⟨hG, hC1.below e2, hM2⟩)
theorem law_fibre (ih : ∀ μ' σ', Inv μ' σ' → E G (mN nm) Z 219 2466 944 (lsL i) [] (Hp μ')) (hi : 0 ≤ i ∧ i + 4 ≤ gN G) (hN : gN G ≤ 2048) (hI : Inv μ σ) : E G (mN nm) Z 219 2466 503 (lsL i) [] (Hp μ) := by
  obtain ⟨hG, hC, hM⟩ := hI
  refine E_aload_n dL_law_503 rfl ?_
  refine L_arg hi hN dL_law_504 dL_law_505 dL_law_506 dL_law_507 dL_law_508 ?_
  refine L_arg hi hN dL_law_509 dL_law_510 dL_law_511 dL_law_512 dL_law_513 ?_
  refine L_arg hi hN dL_law_514 dL_law_515 dL_law_516 dL_law_517 dL_law_518 ?_
  refine E_callV dL_law_519 lkL_66 (Hp_get sk_0) (c_fibre (xr _) (xr _) (xr _) hC hG.1) (fun v M' q => ?_) (hr1 := Nat.le_of_ble_eq_true rfl) (hr2 := Nat.le_of_ble_eq_true rfl)
  obtain ⟨rfl, μ1, rfl, hC1, e1⟩ := q
  have hM1 := hM.above e1
  refine E_aload_n dL_law_522 rfl ?_
  refine L_arg hi hN dL_law_523 dL_law_524 dL_law_525 dL_law_526 dL_law_527 ?_
  refine L_arg hi hN dL_law_528 dL_law_529 dL_law_530 dL_law_531 dL_law_532 ?_
  refine L_arg hi hN dL_law_533 dL_law_534 dL_law_535 dL_law_536 dL_law_537 ?_
  refine E_callV dL_law_538 lkL_69 (Hp_get sk_203) (m_fibre (xr _) (xr _) (xr _) hM1 hG.1) (fun v M' q => ?_) (hr1 := Nat.le_of_ble_eq_true rfl) (hr2 := Nat.le_of_ble_eq_true rfl)
  obtain ⟨rfl, μ2, rfl, hM2, e2⟩ := q
  exact E_icmp_same 944 dL_law_541 (ih μ2 _ ⟨hG, hC1.below e2, hM2⟩)
theorem law_euler (ih : ∀ μ' σ', Inv μ' σ' → E G (mN nm) Z 219 2466 944 (lsL i) [] (Hp μ')) (hi : 0 ≤ i ∧ i + 4 ≤ gN G) (hN : gN G ≤ 2048) (hI : Inv μ σ) : E G (mN nm) Z 219 2466 546 (lsL i) [] (Hp μ) := by
  obtain ⟨hG, hC, hM⟩ := hI
  refine E_aload_n dL_law_546 rfl ?_
  refine L_arg hi hN dL_law_547 dL_law_548 dL_law_549 dL_law_550 dL_law_551 ?_
  refine L_arg hi hN dL_law_552 dL_law_553 dL_law_554 dL_law_555 dL_law_556 ?_
  refine E_callV dL_law_557 lkL_70 (Hp_get sk_0) (c_euler (xr _) (xr _) hC hG.1) (fun v M' q => ?_) (hr1 := Nat.le_of_ble_eq_true rfl) (hr2 := Nat.le_of_ble_eq_true rfl)
  obtain ⟨rfl, μ1, rfl, hC1, e1⟩ := q
  have hM1 := hM.above e1
  refine E_aload_n dL_law_560 rfl ?_
  refine L_arg hi hN dL_law_561 dL_law_562 dL_law_563 dL_law_564 dL_law_565 ?_
  refine L_arg hi hN dL_law_566 dL_law_567 dL_law_568 dL_law_569 dL_law_570 ?_
  refine E_callV dL_law_571 lkL_73 (Hp_get sk_203) (m_euler (xr _) (xr _) hM1 hG.1) (fun v M' q => ?_) (hr1 := Nat.le_of_ble_eq_true rfl) (hr2 := Nat.le_of_ble_eq_true rfl)
  obtain ⟨rfl, μ2, rfl, hM2, e2⟩ := q
  exact E_lcmp_same 944 dL_law_574 dL_law_575 (ih μ2 _ ⟨hG, hC1.below e2, hM2⟩)
theorem law_over (ih : ∀ μ' σ', Inv μ' σ' → E G (mN nm) Z 219 2466 944 (lsL i) [] (Hp μ')) (hi : 0 ≤ i ∧ i + 4 ≤ gN G) (hN : gN G ≤ 2048) (hI : Inv μ σ) : E G (mN nm) Z 219 2466 580 (lsL i) [] (Hp μ) := by
  obtain ⟨hG, hC, hM⟩ := hI
  refine E_aload_n dL_law_580 rfl ?_
  refine L_arg hi hN dL_law_581 dL_law_582 dL_law_583 dL_law_584 dL_law_585 ?_
  refine L_arg hi hN dL_law_586 dL_law_587 dL_law_588 dL_law_589 dL_law_590 ?_
  refine E_callV dL_law_591 lkL_74 (Hp_get sk_0) (c_over (xr _) (xr _) hC hG.1) (fun v M' q => ?_) (hr1 := Nat.le_of_ble_eq_true rfl) (hr2 := Nat.le_of_ble_eq_true rfl)
  obtain ⟨rfl, μ1, rfl, hC1, e1⟩ := q
  have hM1 := hM.above e1
  refine E_aload_n dL_law_594 rfl ?_
  refine L_arg hi hN dL_law_595 dL_law_596 dL_law_597 dL_law_598 dL_law_599 ?_
  refine L_arg hi hN dL_law_600 dL_law_601 dL_law_602 dL_law_603 dL_law_604 ?_
  refine E_callV dL_law_605 lkL_77 (Hp_get sk_203) (m_over (xr _) (xr _) hM1 hG.1) (fun v M' q => ?_) (hr1 := Nat.le_of_ble_eq_true rfl) (hr2 := Nat.le_of_ble_eq_true rfl)
  obtain ⟨rfl, μ2, rfl, hM2, e2⟩ := q
  exact E_lcmp_same 944 dL_law_608 dL_law_609 (ih μ2 _ ⟨hG, hC1.below e2, hM2⟩)
theorem law_like (ih : ∀ μ' σ', Inv μ' σ' → E G (mN nm) Z 219 2466 944 (lsL i) [] (Hp μ')) (hi : 0 ≤ i ∧ i + 4 ≤ gN G) (hN : gN G ≤ 2048) (hI : Inv μ σ) : E G (mN nm) Z 219 2466 614 (lsL i) [] (Hp μ) := by
  obtain ⟨hG, hC, hM⟩ := hI
  refine E_aload_n dL_law_614 rfl ?_
  refine L_arg hi hN dL_law_615 dL_law_616 dL_law_617 dL_law_618 dL_law_619 ?_
  refine L_arg hi hN dL_law_620 dL_law_621 dL_law_622 dL_law_623 dL_law_624 ?_
  refine E_callV dL_law_625 lkL_78 (Hp_get sk_0) (c_like (xr _) (xr _) hC hG.1) (fun v M' q => ?_) (hr1 := Nat.le_of_ble_eq_true rfl) (hr2 := Nat.le_of_ble_eq_true rfl)
  obtain ⟨rfl, μ1, rfl, hC1, e1⟩ := q
  have hM1 := hM.above e1
  refine E_aload_n dL_law_628 rfl ?_
  refine L_arg hi hN dL_law_629 dL_law_630 dL_law_631 dL_law_632 dL_law_633 ?_
  refine L_arg hi hN dL_law_634 dL_law_635 dL_law_636 dL_law_637 dL_law_638 ?_
  refine E_callV dL_law_639 lkL_81 (Hp_get sk_203) (m_like (xr _) (xr _) hM1 hG) (fun v M' q => ?_) (hr1 := Nat.le_of_ble_eq_true rfl) (hr2 := Nat.le_of_ble_eq_true rfl)
  obtain ⟨rfl, μ2, rfl, hM2, e2⟩ := q
  exact E_icmp_same 944 dL_law_642 (ih μ2 _ ⟨hG, hC1.below e2, hM2⟩)
theorem law_torsion (ih : ∀ μ' σ', Inv μ' σ' → E G (mN nm) Z 219 2466 944 (lsL i) [] (Hp μ')) (hi : 0 ≤ i ∧ i + 4 ≤ gN G) (hN : gN G ≤ 2048) (hI : Inv μ σ) : E G (mN nm) Z 219 2466 647 (lsL i) [] (Hp μ) := by
  obtain ⟨hG, hC, hM⟩ := hI
  refine E_aload_n dL_law_647 rfl ?_
  refine L_arg hi hN dL_law_648 dL_law_649 dL_law_650 dL_law_651 dL_law_652 ?_
  refine L_arg hi hN dL_law_653 dL_law_654 dL_law_655 dL_law_656 dL_law_657 ?_
  refine E_callV dL_law_658 lkL_82 (Hp_get sk_0) (c_torsion (xr _) (xr _) hC hG.1) (fun v M' q => ?_) (hr1 := Nat.le_of_ble_eq_true rfl) (hr2 := Nat.le_of_ble_eq_true rfl)
  obtain ⟨rfl, μ1, rfl, hC1, e1⟩ := q
  have hM1 := hM.above e1
  refine E_aload_n dL_law_661 rfl ?_
  refine L_arg hi hN dL_law_662 dL_law_663 dL_law_664 dL_law_665 dL_law_666 ?_
  refine L_arg hi hN dL_law_667 dL_law_668 dL_law_669 dL_law_670 dL_law_671 ?_
  refine E_callV dL_law_672 lkL_85 (Hp_get sk_203) (m_torsion (xr _) (xr _) hM1 hG.1) (fun v M' q => ?_) (hr1 := Nat.le_of_ble_eq_true rfl) (hr2 := Nat.le_of_ble_eq_true rfl)
  obtain ⟨rfl, μ2, rfl, hM2, e2⟩ := q
  exact E_lcmp_same 944 dL_law_675 dL_law_676 (ih μ2 _ ⟨hG, hC1.below e2, hM2⟩)
theorem law_maps (ih : ∀ μ' σ', Inv μ' σ' → E G (mN nm) Z 219 2466 944 (lsL i) [] (Hp μ')) (hi : 0 ≤ i ∧ i + 4 ≤ gN G) (hN : gN G ≤ 2048) (hI : Inv μ σ) : E G (mN nm) Z 219 2466 681 (lsL i) [] (Hp μ) := by
  obtain ⟨hG, hC, hM⟩ := hI
  refine E_aload_n dL_law_681 rfl ?_
  refine L_arg hi hN dL_law_682 dL_law_683 dL_law_684 dL_law_685 dL_law_686 ?_
  refine L_arg hi hN dL_law_687 dL_law_688 dL_law_689 dL_law_690 dL_law_691 ?_
  refine E_callV dL_law_692 lkL_86 (Hp_get sk_0) (c_maps (xr _) (xr _) hC hG.1) (fun v M' q => ?_) (hr1 := Nat.le_of_ble_eq_true rfl) (hr2 := Nat.le_of_ble_eq_true rfl)
  obtain ⟨rfl, μ1, rfl, hC1, e1⟩ := q
  have hM1 := hM.above e1
  refine E_aload_n dL_law_695 rfl ?_
  refine L_arg hi hN dL_law_696 dL_law_697 dL_law_698 dL_law_699 dL_law_700 ?_
  refine L_arg hi hN dL_law_701 dL_law_702 dL_law_703 dL_law_704 dL_law_705 ?_
  refine E_callV dL_law_706 lkL_89 (Hp_get sk_203) (m_maps (xr _) (xr _) hM1 hG.1) (fun v M' q => ?_) (hr1 := Nat.le_of_ble_eq_true rfl) (hr2 := Nat.le_of_ble_eq_true rfl)
  obtain ⟨rfl, μ2, rfl, hM2, e2⟩ := q
  exact E_lcmp_same 944 dL_law_709 dL_law_710 (ih μ2 _ ⟨hG, hC1.below e2, hM2⟩)
theorem law_threes (ih : ∀ μ' σ', Inv μ' σ' → E G (mN nm) Z 219 2466 944 (lsL i) [] (Hp μ')) (hi : 0 ≤ i ∧ i + 4 ≤ gN G) (hN : gN G ≤ 2048) (hI : Inv μ σ) : E G (mN nm) Z 219 2466 715 (lsL i) [] (Hp μ) := by
  obtain ⟨hG, hC, hM⟩ := hI
  refine E_aload_n dL_law_715 rfl ?_
  refine L_arg hi hN dL_law_716 dL_law_717 dL_law_718 dL_law_719 dL_law_720 ?_
  refine E_callV dL_law_721 lkL_90 (Hp_get sk_0) (c_threes (xr _) hC hG.1) (fun v M' q => ?_) (hr1 := Nat.le_of_ble_eq_true rfl) (hr2 := Nat.le_of_ble_eq_true rfl)
  obtain ⟨rfl, μ1, rfl, hC1, e1⟩ := q
  have hM1 := hM.above e1
  refine E_aload_n dL_law_724 rfl ?_
  refine L_arg hi hN dL_law_725 dL_law_726 dL_law_727 dL_law_728 dL_law_729 ?_
  refine E_callV dL_law_730 lkL_94 (Hp_get sk_203) (m_threes (xr _) hM1 hG.1) (fun v M' q => ?_) (hr1 := Nat.le_of_ble_eq_true rfl) (hr2 := Nat.le_of_ble_eq_true rfl)
  obtain ⟨rfl, μ2, rfl, hM2, e2⟩ := q
  exact E_lcmp_same 944 dL_law_733 dL_law_734 (ih μ2 _ ⟨hG, hC1.below e2, hM2⟩)
theorem law_lens (ih : ∀ μ' σ', Inv μ' σ' → E G (mN nm) Z 219 2466 944 (lsL i) [] (Hp μ')) (hi : 0 ≤ i ∧ i + 4 ≤ gN G) (hN : gN G ≤ 2048) (hI : Inv μ σ) : E G (mN nm) Z 219 2466 739 (lsL i) [] (Hp μ) := by
  obtain ⟨hG, hC, hM⟩ := hI
  refine E_aload_n dL_law_739 rfl ?_
  refine L_arg hi hN dL_law_740 dL_law_741 dL_law_742 dL_law_743 dL_law_744 ?_
  refine L_arg hi hN dL_law_745 dL_law_746 dL_law_747 dL_law_748 dL_law_749 ?_
  refine E_callV dL_law_750 lkL_95 (Hp_get sk_0) (c_lens (xr _) (xr _) hC hG.1) (fun v M' q => ?_) (hr1 := Nat.le_of_ble_eq_true rfl) (hr2 := Nat.le_of_ble_eq_true rfl)
  obtain ⟨rfl, μ1, rfl, hC1, e1⟩ := q
  have hM1 := hM.above e1
  refine E_aload_n dL_law_753 rfl ?_
  refine L_arg hi hN dL_law_754 dL_law_755 dL_law_756 dL_law_757 dL_law_758 ?_
  refine L_arg hi hN dL_law_759 dL_law_760 dL_law_761 dL_law_762 dL_law_763 ?_
  refine E_callV dL_law_764 lkL_98 (Hp_get sk_203) (m_lens (xr _) (xr _) hM1 hG.1) (fun v M' q => ?_) (hr1 := Nat.le_of_ble_eq_true rfl) (hr2 := Nat.le_of_ble_eq_true rfl)
  obtain ⟨rfl, μ2, rfl, hM2, e2⟩ := q
  exact E_lcmp_same 944 dL_law_767 dL_law_768 (ih μ2 _ ⟨hG, hC1.below e2, hM2⟩)
theorem law_sees (ih : ∀ μ' σ', Inv μ' σ' → E G (mN nm) Z 219 2466 944 (lsL i) [] (Hp μ')) (hi : 0 ≤ i ∧ i + 4 ≤ gN G) (hN : gN G ≤ 2048) (hI : Inv μ σ) : E G (mN nm) Z 219 2466 773 (lsL i) [] (Hp μ) := by
  obtain ⟨hG, hC, hM⟩ := hI
  refine E_aload_n dL_law_773 rfl ?_
  refine L_arg hi hN dL_law_774 dL_law_775 dL_law_776 dL_law_777 dL_law_778 ?_
  refine L_arg hi hN dL_law_779 dL_law_780 dL_law_781 dL_law_782 dL_law_783 ?_
  refine E_i2l dL_law_784 (E_bipush dL_law_785 (E_lshl (Int64.ofInt (Xs G (i + 2)) <<< ((Int32.ofInt 32).toInt64 &&& 63)).toInt dL_law_787 (Int64.ofInt_toInt _).symm ?_)) (xr _)
  refine L_arg hi hN dL_law_788 dL_law_789 dL_law_790 dL_law_791 dL_law_792 ?_
  refine E_i2l dL_law_793 (E_ldc2 (a := 4294967295) dL_law_794 coL_99 (E_land (Int64.ofInt (Xs G (i + 3)) &&& Int64.ofInt 4294967295).toInt dL_law_797 (Int64.ofInt_toInt _).symm (E_lor (Int64.ofInt (Int64.ofInt (Xs G (i + 2)) <<< ((Int32.ofInt 32).toInt64 &&& 63)).toInt ||| Int64.ofInt (Int64.ofInt (Xs G (i + 3)) &&& Int64.ofInt 4294967295).toInt).toInt dL_law_798 (Int64.ofInt_toInt _).symm ?_))) (xr _)
  have hv : ∀ z : Int64, -9223372036854775808 ≤ z.toInt ∧ z.toInt < 9223372036854775808 := fun z => by have h1 := Int64.le_toInt z; have h2 := Int64.toInt_lt z; omega
  refine E_callV dL_law_799 lkL_101 (Hp_get sk_0) (c_sees (xr _) (hv _) hC hG.1) (fun v M' q => ?_) (hr1 := Nat.le_of_ble_eq_true rfl) (hr2 := Nat.le_of_ble_eq_true rfl)
  obtain ⟨rfl, μ1, rfl, hC1, e1⟩ := q
  have hM1 := hM.above e1
  refine E_aload_n dL_law_802 rfl ?_
  refine L_arg hi hN dL_law_803 dL_law_804 dL_law_805 dL_law_806 dL_law_807 ?_
  refine L_arg hi hN dL_law_808 dL_law_809 dL_law_810 dL_law_811 dL_law_812 ?_
  refine E_i2l dL_law_813 (E_bipush dL_law_814 (E_lshl (Int64.ofInt (Xs G (i + 2)) <<< ((Int32.ofInt 32).toInt64 &&& 63)).toInt dL_law_816 (Int64.ofInt_toInt _).symm ?_)) (xr _)
  refine L_arg hi hN dL_law_817 dL_law_818 dL_law_819 dL_law_820 dL_law_821 ?_
  refine E_i2l dL_law_822 (E_ldc2 (a := 4294967295) dL_law_823 coL_99 (E_land (Int64.ofInt (Xs G (i + 3)) &&& Int64.ofInt 4294967295).toInt dL_law_826 (Int64.ofInt_toInt _).symm (E_lor (Int64.ofInt (Int64.ofInt (Xs G (i + 2)) <<< ((Int32.ofInt 32).toInt64 &&& 63)).toInt ||| Int64.ofInt (Int64.ofInt (Xs G (i + 3)) &&& Int64.ofInt 4294967295).toInt).toInt dL_law_827 (Int64.ofInt_toInt _).symm ?_))) (xr _)
  refine E_callV dL_law_828 lkL_105 (Hp_get sk_203) (m_sees (xr _) (hv _) hM1) (fun v M' q => ?_) (hr1 := Nat.le_of_ble_eq_true rfl) (hr2 := Nat.le_of_ble_eq_true rfl)
  obtain ⟨rfl, μ2, rfl, hM2, e2⟩ := q
  exact E_icmp_same 944 dL_law_831 (ih μ2 _ ⟨(g_sees (hv _).2 hG), hC1.below e2, hM2⟩)
theorem law_forget (ih : ∀ μ' σ', Inv μ' σ' → E G (mN nm) Z 219 2466 944 (lsL i) [] (Hp μ')) (hi : 0 ≤ i ∧ i + 4 ≤ gN G) (hN : gN G ≤ 2048) (hI : Inv μ σ) : E G (mN nm) Z 219 2466 836 (lsL i) [] (Hp μ) := by
  obtain ⟨hG, hC, hM⟩ := hI
  refine E_aload_n dL_law_836 rfl ?_
  refine E_callV dL_law_837 lkL_106 (Hp_get sk_0) (c_forget hC) (fun v M' q => ?_) (hr1 := Nat.le_of_ble_eq_true rfl) (hr2 := Nat.le_of_ble_eq_true rfl)
  obtain ⟨rfl, μ1, rfl, hC1, e1⟩ := q
  have hM1 := hM.above e1
  refine E_aload_n dL_law_840 rfl ?_
  refine E_callV dL_law_841 lkL_109 (Hp_get sk_203) (m_forget hM1) (fun v M' q => ?_) (hr1 := Nat.le_of_ble_eq_true rfl) (hr2 := Nat.le_of_ble_eq_true rfl)
  obtain ⟨rfl, μ2, rfl, hM2, e2⟩ := q
  exact E_icmp_same 944 dL_law_844 (ih μ2 _ ⟨(g_forget hG), hC1.below e2, hM2⟩)
theorem law_which (ih : ∀ μ' σ', Inv μ' σ' → E G (mN nm) Z 219 2466 944 (lsL i) [] (Hp μ')) (hi : 0 ≤ i ∧ i + 4 ≤ gN G) (hN : gN G ≤ 2048) (hI : Inv μ σ) : E G (mN nm) Z 219 2466 849 (lsL i) [] (Hp μ) := by
  obtain ⟨hG, hC, hM⟩ := hI
  refine E_aload_n dL_law_849 rfl ?_
  refine E_callV dL_law_850 lkL_110 (Hp_get sk_0) (c_which hC hG.1) (fun v M' q => ?_) (hr1 := Nat.le_of_ble_eq_true rfl) (hr2 := Nat.le_of_ble_eq_true rfl)
  obtain ⟨rfl, μ1, rfl, hC1, e1⟩ := q
  have hM1 := hM.above e1
  refine E_aload_n dL_law_853 rfl ?_
  refine E_callV dL_law_854 lkL_113 (Hp_get sk_203) (m_which hM1 hG.1) (fun v M' q => ?_) (hr1 := Nat.le_of_ble_eq_true rfl) (hr2 := Nat.le_of_ble_eq_true rfl)
  obtain ⟨rfl, μ2, rfl, hM2, e2⟩ := q
  exact E_icmp_same 944 dL_law_857 (ih μ2 _ ⟨hG, hC1.below e2, hM2⟩)
theorem law_ask (ih : ∀ μ' σ', Inv μ' σ' → E G (mN nm) Z 219 2466 944 (lsL i) [] (Hp μ')) (hi : 0 ≤ i ∧ i + 4 ≤ gN G) (hN : gN G ≤ 2048) (hI : Inv μ σ) : E G (mN nm) Z 219 2466 862 (lsL i) [] (Hp μ) := by
  obtain ⟨hG, hC, hM⟩ := hI
  refine E_aload_n dL_law_862 rfl ?_
  refine E_callV dL_law_863 lkL_114 (Hp_get sk_0) (c_ask hC hG.1) (fun v M' q => ?_) (hr1 := Nat.le_of_ble_eq_true rfl) (hr2 := Nat.le_of_ble_eq_true rfl)
  obtain ⟨rfl, μ1, rfl, hC1, e1⟩ := q
  have hM1 := hM.above e1
  refine E_aload_n dL_law_866 rfl ?_
  refine E_callV dL_law_867 lkL_117 (Hp_get sk_203) (m_ask hM1 hG.1) (fun v M' q => ?_) (hr1 := Nat.le_of_ble_eq_true rfl) (hr2 := Nat.le_of_ble_eq_true rfl)
  obtain ⟨rfl, μ2, rfl, hM2, e2⟩ := q
  exact E_icmp_same 944 dL_law_870 (ih μ2 _ ⟨hG, hC1.below e2, hM2⟩)
theorem law_keep (ih : ∀ μ' σ', Inv μ' σ' → E G (mN nm) Z 219 2466 944 (lsL i) [] (Hp μ')) (hi : 0 ≤ i ∧ i + 4 ≤ gN G) (hN : gN G ≤ 2048) (hI : Inv μ σ) : E G (mN nm) Z 219 2466 875 (lsL i) [] (Hp μ) := by
  obtain ⟨hG, hC, hM⟩ := hI
  refine E_aload_n dL_law_875 rfl ?_
  refine L_arg hi hN dL_law_876 dL_law_877 dL_law_878 dL_law_879 dL_law_880 ?_
  refine E_callV dL_law_881 lkL_118 (Hp_get sk_0) (c_keep (xr _) hC hG.1) (fun v M' q => ?_) (hr1 := Nat.le_of_ble_eq_true rfl) (hr2 := Nat.le_of_ble_eq_true rfl)
  obtain ⟨rfl, μ1, rfl, hC1, e1⟩ := q
  have hM1 := hM.above e1
  refine E_aload_n dL_law_884 rfl ?_
  refine L_arg hi hN dL_law_885 dL_law_886 dL_law_887 dL_law_888 dL_law_889 ?_
  refine E_callV dL_law_890 lkL_121 (Hp_get sk_203) (m_keep (xr _) hM1 hG.1) (fun v M' q => ?_) (hr1 := Nat.le_of_ble_eq_true rfl) (hr2 := Nat.le_of_ble_eq_true rfl)
  obtain ⟨rfl, μ2, rfl, hM2, e2⟩ := q
  exact E_icmp_same 944 dL_law_893 (ih μ2 _ ⟨(g_keep hG), hC1.below e2, hM2⟩)
theorem law_back (ih : ∀ μ' σ', Inv μ' σ' → E G (mN nm) Z 219 2466 944 (lsL i) [] (Hp μ')) (hi : 0 ≤ i ∧ i + 4 ≤ gN G) (hN : gN G ≤ 2048) (hI : Inv μ σ) : E G (mN nm) Z 219 2466 898 (lsL i) [] (Hp μ) := by
  obtain ⟨hG, hC, hM⟩ := hI
  refine E_aload_n dL_law_898 rfl ?_
  refine L_arg hi hN dL_law_899 dL_law_900 dL_law_901 dL_law_902 dL_law_903 ?_
  refine E_callV dL_law_904 lkL_122 (Hp_get sk_0) (c_back (xr _) hC hG.1) (fun v M' q => ?_) (hr1 := Nat.le_of_ble_eq_true rfl) (hr2 := Nat.le_of_ble_eq_true rfl)
  obtain ⟨rfl, μ1, rfl, hC1, e1⟩ := q
  have hM1 := hM.above e1
  refine E_aload_n dL_law_907 rfl ?_
  refine L_arg hi hN dL_law_908 dL_law_909 dL_law_910 dL_law_911 dL_law_912 ?_
  refine E_callV dL_law_913 lkL_125 (Hp_get sk_203) (m_back (xr _) hM1 hG.1) (fun v M' q => ?_) (hr1 := Nat.le_of_ble_eq_true rfl) (hr2 := Nat.le_of_ble_eq_true rfl)
  obtain ⟨rfl, μ2, rfl, hM2, e2⟩ := q
  exact E_icmp_same 944 dL_law_916 (ih μ2 _ ⟨(g_back hG), hC1.below e2, hM2⟩)
theorem law_count (ih : ∀ μ' σ', Inv μ' σ' → E G (mN nm) Z 219 2466 944 (lsL i) [] (Hp μ')) (hi : 0 ≤ i ∧ i + 4 ≤ gN G) (hN : gN G ≤ 2048) (hI : Inv μ σ) : E G (mN nm) Z 219 2466 921 (lsL i) [] (Hp μ) := by
  obtain ⟨hG, hC, hM⟩ := hI
  refine E_aload_n dL_law_921 rfl ?_
  refine L_arg hi hN dL_law_922 dL_law_923 dL_law_924 dL_law_925 dL_law_926 ?_
  refine E_callV dL_law_927 lkL_126 (Hp_get sk_0) (c_count (xr _) hC hG.1) (fun v M' q => ?_) (hr1 := Nat.le_of_ble_eq_true rfl) (hr2 := Nat.le_of_ble_eq_true rfl)
  obtain ⟨rfl, μ1, rfl, hC1, e1⟩ := q
  have hM1 := hM.above e1
  refine E_aload_n dL_law_930 rfl ?_
  refine L_arg hi hN dL_law_931 dL_law_932 dL_law_933 dL_law_934 dL_law_935 ?_
  refine E_callV dL_law_936 lkL_129 (Hp_get sk_203) (m_count (xr _) hM1 hG.1) (fun v M' q => ?_) (hr1 := Nat.le_of_ble_eq_true rfl) (hr2 := Nat.le_of_ble_eq_true rfl)
  obtain ⟨rfl, μ2, rfl, hM2, e2⟩ := q
  exact E_icmp_same 944 dL_law_939 (ih μ2 _ ⟨hG, hC1.below e2, hM2⟩)
end LAW
