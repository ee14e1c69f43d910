/-! FibredSpacesModel: a corner is cleared -/
section MCLEARS
variable {G : GT} {μ : Mem} {M : HV} {σ : St}
theorem el_in {k s row tm n ow : Nat} {w3 w4 w5 : Value} {Q : QT} (hs : s ≤ 8) (hkr : k < row ∧ row < s) (htm : tm < 256) (hG : GR μ) (hk : ∀ (μ2 : Mem) (w10 : Value), (∀ c : Nat, k ≤ c → c < s → gM μ2 row c = (gM μ row c - tm * gM μ k c) % 256) → (∀ r c : Nat, r < 8 → c < 8 → (r ≠ row ∨ c < k ∨ s ≤ c) → gM μ2 r c = gM μ r c) → (∀ q : Nat, q ≠ 212 → μ2 q = μ q) → E G mX11_clears (Zq G mX11_clears Q) 0 0 367 [.ref 203, vi (k : Int), vi (s : Int), w3, w4, w5, vi (n : Int), vi (ow : Int), vi (row : Int), vi (tm : Int), w10] [] (Hp μ2)) : ∀ (t c : Nat) (μ' : Mem), c + t = s → k ≤ c → (∀ j : Nat, k ≤ j → j < c → gM μ' row j = (gM μ row j - tm * gM μ k j) % 256) → (∀ r j : Nat, r < 8 → j < 8 → (r ≠ row ∨ j < k ∨ c ≤ j) → gM μ' r j = gM μ r j) → (∀ q : Nat, q ≠ 212 → μ' q = μ q) →
    E G mX11_clears (Zq G mX11_clears Q) 0 0 307 [.ref 203, vi (k : Int), vi (s : Int), w3, w4, w5, vi (n : Int), vi (ow : Int), vi (row : Int), vi (tm : Int), vi (c : Int)] [] (Hp μ')
  | 0, c, μ', e, b0, h1, h2, h3 => by
    have : c = s := by omega
    subst this
    refine E_iload dX11_clears_307 rfl ?_
    refine E_iload_n dX11_clears_309 rfl ?_
    refine E_icmp_ge 367 dX11_clears_310 (fun h310 => ?_) (fun h310 => ?_)
    · -- 367
      exact hk μ' _ h1 h2 h3
    · -- 313
      exfalso; omega
  | t + 1, c, μ', e, b0, h1, h2, h3 => by
    have ih := el_in (n := n) (ow := ow) (w3 := w3) (w4 := w4) (w5 := w5) hs hkr htm hG hk t (c + 1)
    rw [show ((c + 1 : Nat) : Int) = (c : Int) + 1 by omega] at ih
    have v1 : μ' 212 (8 * (row : Int) + (c : Int)) = gM μ row c := h2 row c (by omega) (by omega) (by omega)
    have v2 : μ' 212 (8 * (k : Int) + (c : Int)) = gM μ k c := h2 k c (by omega) (by omega) (by omega)
    have r1 := hG row c (by omega) (by omega)
    have r2 := hG k c (by omega) (by omega)
    have m1 := Int.mul_nonneg (show 0 ≤ (tm : Int) by omega) r2.1
    have m2 : (tm : Int) * gM μ k c ≤ 256 * 256 := Int.mul_le_mul (by omega) (by omega) r2.1 (by decide)
    refine E_iload dX11_clears_307 rfl ?_
    refine E_iload_n dX11_clears_309 rfl ?_
    refine E_icmp_ge 367 dX11_clears_310 (fun h310 => ?_) (fun h310 => ?_)
    · -- 367
      exfalso; omega
    · -- 313
      refine E_aload_n dX11_clears_313 rfl ?_
      refine GX11_36 sk_203 dX11_clears_314 ?_
      refine E_bipush dX11_clears_317 ?_
      refine E_iload dX11_clears_319 rfl ?_
      refine E_imul dX11_clears_321 ?_
      refine E_iload dX11_clears_322 rfl ?_
      refine E_iadd dX11_clears_324 ?_
      refine E_aload_n dX11_clears_325 rfl ?_
      refine GX11_36 sk_203 dX11_clears_326 ?_
      refine E_bipush dX11_clears_329 ?_
      refine E_iload dX11_clears_331 rfl ?_
      refine E_imul dX11_clears_333 ?_
      refine E_iload dX11_clears_334 rfl ?_
      refine E_iadd dX11_clears_336 ?_
      refine H_iald sk_212 dX11_clears_337 ?_
      rw [v1]
      refine E_iload dX11_clears_338 rfl ?_
      refine E_aload_n dX11_clears_340 rfl ?_
      refine GX11_36 sk_203 dX11_clears_341 ?_
      refine E_bipush dX11_clears_344 ?_
      refine E_iload_n dX11_clears_346 rfl ?_
      refine E_imul dX11_clears_347 ?_
      refine E_iload dX11_clears_348 rfl ?_
      refine E_iadd dX11_clears_350 ?_
      refine H_iald sk_212 dX11_clears_351 ?_
      rw [v2]
      refine E_imul dX11_clears_352 ?_
      refine E_isub dX11_clears_353 ?_
      refine E_sipush dX11_clears_354 ?_
      refine E_callSR dX11_clears_357 lkX11_79 (m_left (x := gM μ row c - tm * gM μ k c) (z := 256) (by omega) (by omega)) ?_
      refine H_iast sk_212 dX11_clears_360 ?_
      refine E_iinc dX11_clears_361 rfl ?_
      refine E_goto 307 dX11_clears_364 ?_
      refine ih _ (by omega) (by omega) (fun j j1 j2 => ?_) (fun r j hr hj hh => ?_) (fun q hq => by rw [up_ne q hq]; exact h3 q hq)
      · show up μ' 212 (8 * (row : Int) + (c : Int)) _ 212 (8 * (row : Int) + (j : Int)) = _
        rw [up_r]
        by_cases ej : j = c
        · subst ej; rw [if_pos rfl]
        · rw [if_neg (by omega)]; exact h1 j j1 (by omega)
      · show up μ' 212 (8 * (row : Int) + (c : Int)) _ 212 (8 * (r : Int) + (j : Int)) = _
        rw [up_r, if_neg (by omega)]; exact h2 r j hr hj (by omega)
/-- what is taken of a row: so many times the one of the corner -/
def tauN (μ : Mem) (k n ow r : Nat) : Nat := ((gM μ r k).toNat / 2 ^ n * ow) % 256
theorem el_out {k s n ow : Nat} {w3 w4 w5 : Value} {Q : QT} (hs : s ≤ 8) (hk8 : k < s) (hn : n < 8) (how : ow < 256) (hG : GR μ) (hk : ∀ μ2 : Mem, (∀ r c : Nat, k < r → r < s → k ≤ c → c < s → gM μ2 r c = (gM μ r c - tauN μ k n ow r * gM μ k c) % 256) → (∀ r c : Nat, r < 8 → c < 8 → (r ≤ k ∨ s ≤ r ∨ c < k ∨ s ≤ c) → gM μ2 r c = gM μ r c) → (∀ q : Nat, q ≠ 212 → μ2 q = μ q) → Q (some (vi (n : Int))) (Hp μ2)) : ∀ (t row : Nat) (μ' : Mem) (w9 w10 : Value), row + t = s → k < row → (∀ r c : Nat, k < r → r < row → k ≤ c → c < s → gM μ' r c = (gM μ r c - tauN μ k n ow r * gM μ k c) % 256) → (∀ r c : Nat, r < 8 → c < 8 → (r ≤ k ∨ row ≤ r ∨ c < k ∨ s ≤ c) → gM μ' r c = gM μ r c) → (∀ q : Nat, q ≠ 212 → μ' q = μ q) →
    E G mX11_clears (Zq G mX11_clears Q) 0 0 274 [.ref 203, vi (k : Int), vi (s : Int), w3, w4, w5, vi (n : Int), vi (ow : Int), vi (row : Int), w9, w10] [] (Hp μ')
  | 0, row, μ', w9, w10, e, b0, h1, h2, h3 => by
    have : row = s := by omega
    subst this
    refine E_iload dX11_clears_274 rfl ?_
    refine E_iload_n dX11_clears_276 rfl ?_
    refine E_icmp_ge 373 dX11_clears_277 (fun h277 => ?_) (fun h277 => ?_)
    · -- 373
      refine E_iload dX11_clears_373 rfl ?_
      refine E_iret dX11_clears_375 ?_
      exact hk μ' h1 h2 h3
    · -- 280
      exfalso; omega
  | t + 1, row, μ', w9, w10, e, b0, h1, h2, h3 => by
    have ih := el_out (w3 := w3) (w4 := w4) (w5 := w5) hs hk8 hn how hG hk t (row + 1)
    rw [show ((row + 1 : Nat) : Int) = (row : Int) + 1 by omega] at ih
    have hG' : GR μ' := fun r c hr hc => by
      by_cases q : k < r ∧ r < row ∧ k ≤ c ∧ c < s
      · rw [h1 r c q.1 q.2.1 q.2.2.1 q.2.2.2]
        exact ⟨Int.emod_nonneg _ (by decide), Int.emod_lt_of_pos _ (by decide)⟩
      · rw [h2 r c hr hc (by omega)]; exact hG r c hr hc
    have v1 : μ' 212 (8 * (row : Int) + (k : Int)) = gM μ row k := h2 row k (by omega) (by omega) (by omega)
    have r1 := hG row k (by omega) (by omega)
    obtain ⟨x, hx⟩ : ∃ x : Nat, gM μ row k = x := ⟨(gM μ row k).toNat, by omega⟩
    have e1 := tws_ok ⟨x, by omega⟩ ⟨n, hn⟩
    have hb : x / 2 ^ n < 256 := Nat.lt_of_le_of_lt (Nat.div_le_self _ _) (by omega)
    have hb2 : x / 2 ^ n * ow ≤ 256 * 256 := Nat.mul_le_mul (by omega) (by omega)
    have et : tauN μ k n ow row = x / 2 ^ n * ow % 256 := by unfold tauN; rw [hx]; rfl
    have e2 : (((x / 2 ^ n : Nat) : Int) * (ow : Int)).tmod 256 = ((tauN μ k n ow row : Nat) : Int) := by
      rw [← Int.natCast_mul, Int.tmod_eq_emod_of_nonneg (by omega), et]; rfl
    have ht : tauN μ k n ow row < 256 := Nat.mod_lt _ (by decide)
    have hc' : ∀ c : Nat, k ≤ c → c < s → gM μ' row c = gM μ row c ∧ gM μ' k c = gM μ k c := fun c c1 c2 => ⟨h2 row c (by omega) (by omega) (by omega), h2 k c (by omega) (by omega) (by omega)⟩
    refine E_iload dX11_clears_274 rfl ?_
    refine E_iload_n dX11_clears_276 rfl ?_
    refine E_icmp_ge 373 dX11_clears_277 (fun h277 => ?_) (fun h277 => ?_)
    · -- 373
      exfalso; omega
    · -- 280
      refine E_aload_n dX11_clears_280 rfl ?_
      refine GX11_36 sk_203 dX11_clears_281 ?_
      refine E_bipush dX11_clears_284 ?_
      refine E_iload dX11_clears_286 rfl ?_
      refine E_imul dX11_clears_288 ?_
      refine E_iload_n dX11_clears_289 rfl ?_
      refine E_iadd dX11_clears_290 ?_
      refine H_iald sk_212 dX11_clears_291 ?_
      rw [v1, hx]
      refine E_iload dX11_clears_292 rfl ?_
      refine E_ishr ((x / 2 ^ n : Nat)) dX11_clears_294 (e1) ?_
      refine E_iload dX11_clears_295 rfl ?_
      refine E_imul dX11_clears_297 ?_
      refine E_sipush dX11_clears_298 ?_
      refine E_irem dX11_clears_301 ?_
      rw [e2]
      refine E_istore dX11_clears_302 ?_
      refine E_iload_n dX11_clears_304 rfl ?_
      refine E_istore dX11_clears_305 ?_
      refine el_in (μ := μ') hs ⟨b0, by omega⟩ ht hG' (fun μ2 w10 g1 g2 g3 => ?_) (s - k) k μ' (by omega) (Nat.le_refl _) (fun j j1 j2 => by omega) (fun r j _ _ _ => rfl) (fun _ _ => rfl)
      refine E_iinc dX11_clears_367 rfl (E_goto 274 dX11_clears_370 (ih μ2 _ _ (by omega) (by omega) (fun r c r1 r2 c1 c2 => ?_) (fun r c hr hc hh => ?_) (fun q hq => by rw [g3 q hq, h3 q hq])))
      · by_cases er : r = row
        · subst er
          rw [g1 c c1 c2, (hc' c c1 c2).1, (hc' c c1 c2).2]
        · rw [g2 r c (by omega) (by omega) (Or.inl er)]
          exact h1 r c r1 (by omega) c1 c2
      · rw [g2 r c hr hc (by omega)]
        exact h2 r c hr hc (by omega)
def ClrQ (μ : Mem) (k s t : Nat) (μ' : Mem) : Prop := GR μ' ∧ (∀ q : Nat, q ≠ 212 → μ' q = μ q) ∧ t ≤ 8 ∧ (∀ e ≤ 8, cntS (2 ^ e) k s (gM μ) = (2 ^ (min t e) : Nat) * cntS (2 ^ e) (k + 1) s (gM μ')) ∧ (∀ r c : Nat, k < r → r < s → k < c → c < s → ((2 ^ t : Nat) : Int) ∣ gM μ' r c) ∧ ∀ u ≤ 8, (∀ r c : Nat, k ≤ r → r < s → k ≤ c → c < s → ((2 ^ u : Nat) : Int) ∣ gM μ r c) → u ≤ t
theorem m_clears {k s : Nat} (hk : k < s) (hs : s ≤ 8) (hG : GR μ) : Ctr G mX11_clears [.ref 203, vi (k : Int), vi (s : Int)] (Hp μ) (fun v M' => ∃ t : Nat, v = some (vi (t : Int)) ∧ ∃ μ', M' = Hp μ' ∧ ClrQ μ k s t μ') := by
  refine Ctr.of ?_
  have tail : ∀ (r0 c0 : Nat) (w4 w5 : Value), k ≤ r0 → r0 < s → k ≤ c0 → c0 < s → (∀ r c : Nat, k ≤ r → r < s → k ≤ c → c < s → twI (gM μ r0 c0) ≤ twI (gM μ r c)) → E G mX11_clears (Zq G mX11_clears (fun v M' => ∃ t : Nat, v = some (vi (t : Int)) ∧ ∃ μ', M' = Hp μ' ∧ ClrQ μ k s t μ')) 0 0 76 [.ref 203, vi (k : Int), vi (s : Int), vi (8 * (r0 : Int) + (c0 : Int)), w4, w5, .retAddr 0, .retAddr 0, .retAddr 0, .retAddr 0, .retAddr 0] [] (Hp μ) := by
    intro r0 c0 w4 w5 b1 b2 b3 b4 hmin
    have d1 : (8 * (r0 : Int) + (c0 : Int)).tdiv 8 = r0 := by rw [Int.tdiv_eq_ediv_of_nonneg (by omega)]; omega
    have d2 : (8 * (r0 : Int) + (c0 : Int)).tmod 8 = c0 := by rw [Int.tmod_eq_emod_of_nonneg (by omega)]; omega
    have fin : ∀ (μ2 : Mem) (w4 w6 w7 : Value), (∀ r c : Nat, r < 8 → c < 8 → gM μ2 r c = gM μ (swp r0 k r) (swp c0 k c)) → (∀ q : Nat, q ≠ 212 → μ2 q = μ q) → E G mX11_clears (Zq G mX11_clears (fun v M' => ∃ t : Nat, v = some (vi (t : Int)) ∧ ∃ μ', M' = Hp μ' ∧ ClrQ μ k s t μ')) 0 0 228 [.ref 203, vi (k : Int), vi (s : Int), vi (8 * (r0 : Int) + (c0 : Int)), w4, vi (c0 : Int), w6, w7, .retAddr 0, .retAddr 0, .retAddr 0] [] (Hp μ2) := by
      intro μ2 w4 w6 w7 hsw hfr
      have hG2 : GR μ2 := fun r c hr hc => by
        rw [hsw r c hr hc]
        have q1 := (swp_rg (a := r0) (b := k) (k := 0) (s := 8) (j := r) (by omega) (by omega)).mpr ⟨by omega, hr⟩
        have q2 := (swp_rg (a := c0) (b := k) (k := 0) (s := 8) (j := c) (by omega) (by omega)).mpr ⟨by omega, hc⟩
        exact hG _ _ q1.2 q2.2
      have hpv : gM μ2 k k = gM μ r0 c0 := by
        rw [hsw k k (by omega) (by omega)]
        congr 1
        · unfold swp; split
          · next h => exact h
          · rw [if_pos rfl]
        · unfold swp; split
          · next h => exact h
          · rw [if_pos rfl]
      have hmin2 : ∀ r c : Nat, k ≤ r → r < s → k ≤ c → c < s → twI (gM μ2 k k) ≤ twI (gM μ2 r c) := fun r c h1 h2 h3 h4 => by
        rw [hpv, hsw r c (by omega) (by omega)]
        have q1 := (swp_rg (a := r0) (b := k) (k := k) (s := s) (j := r) (by omega) (by omega)).mpr ⟨h1, h2⟩
        have q2 := (swp_rg (a := c0) (b := k) (k := k) (s := s) (j := c) (by omega) (by omega)).mpr ⟨h3, h4⟩
        exact hmin _ _ q1.1 q1.2 q2.1 q2.2
      have hcnt : ∀ e : Nat, cntS (2 ^ e) k s (gM μ) = cntS (2 ^ e) k s (gM μ2) := fun e => by
        rw [cnt_row (a := r0) (b := k) ⟨b1, b2⟩ ⟨Nat.le_refl _, hk⟩, cnt_col (a := c0) (b := k) ⟨b3, b4⟩ ⟨Nat.le_refl _, hk⟩]
        refine cnt_iff (fun x => ?_)
        have el : ∀ r, k ≤ r → r < s → lin (rgN k s) (fun c => gM μ (swp r0 k r) (swp c0 k c)) x = lin (rgN k s) (gM μ2 r) x := fun r h1 h2 => lin_congr _ (fun c hc => ⟨by
          have := rgN_mem.mp hc
          rw [hsw r c (by omega) (by omega)], rfl⟩)
        exact ⟨fun h r h1 h2 => by rw [← el r h1 h2]; exact h r h1 h2, fun h r h1 h2 => by
          have := h r h1 h2
          rw [← el r h1 h2] at this
          exact this⟩
      have hlow : ∀ u ≤ 8, (∀ r c : Nat, k ≤ r → r < s → k ≤ c → c < s → ((2 ^ u : Nat) : Int) ∣ gM μ r c) → u ≤ twI (gM μ2 k k) := fun u hu h => by
        rw [hpv]
        exact twI_ge (hG r0 c0 (by omega) (by omega)) hu (h r0 c0 b1 b2 b3 b4)
      have vkk := hG2 k k (by omega) (by omega)
      obtain ⟨t1, t2, t3, t4⟩ := twI_ok vkk
      have hw := m_twosOf (G := G) (M := Hp μ2) vkk
      have hdiv : ∀ r c : Nat, k ≤ r → r < s → k ≤ c → c < s → ((2 ^ twI (gM μ2 k k) : Nat) : Int) ∣ gM μ2 r c := fun r c h1 h2 h3 h4 => Int.dvd_trans (Int.natCast_dvd_natCast.mpr (Nat.pow_dvd_pow 2 (hmin2 r c h1 h2 h3 h4))) (twI_ok (hG2 r c (by omega) (by omega))).2.1
      have i9 : gM μ2 k k = μ2 212 (9 * (k : Int)) := by unfold gM; congr 1; omega
      have iw : tw (gM μ2 k k).toNat = twI (gM μ2 k k) := rfl
      rw [iw] at hw
      generalize htt : twI (gM μ2 k k) = t at *
      by_cases q8 : t = 8
      · have hzero : ∀ r c : Nat, k ≤ r → r < s → k ≤ c → c < s → gM μ2 r c = 0 := fun r c h1 h2 h3 h4 => by
          have a1 := hmin2 r c h1 h2 h3 h4
          have a2 := twI_ok (hG2 r c (by omega) (by omega))
          exact a2.2.2.2 (by have := a2.1; omega)
        have hQ : ClrQ μ k s t μ2 := by
          refine ⟨hG2, hfr, t1, fun e he => ?_, fun r c h1 h2 h3 h4 => by rw [hzero r c (by omega) h2 (by omega) h4]; exact Int.dvd_zero _, hlow⟩
          rw [hcnt e]
          exact cnt_elim (τ := fun _ => 0) (p := fun _ => 0) he hk (fun _ _ _ => rfl) (fun r c h1 h2 h3 h4 => by simp) (fun r h1 h2 => hzero r k (by omega) h2 (Nat.le_refl _) hk) (fun c h1 h2 => by rw [hzero k c (Nat.le_refl _) hk h1 h2]; simp) (Or.inr (by omega))
        refine E_aload_n dX11_clears_228 rfl ?_
        refine GX11_36 sk_203 dX11_clears_229 ?_
        refine E_bipush dX11_clears_232 ?_
        refine E_iload_n dX11_clears_234 rfl ?_
        refine E_imul dX11_clears_235 ?_
        refine H_iald sk_212 dX11_clears_236 ?_
        rw [← i9]
        refine E_callSR dX11_clears_237 lkX11_220 (hw) ?_
        refine E_istore dX11_clears_240 ?_
        refine E_iload dX11_clears_242 rfl ?_
        refine E_bipush dX11_clears_244 ?_
        refine E_icmp_ne 252 dX11_clears_246 (fun h246 => ?_) (fun h246 => ?_)
        · -- 252
          exfalso; omega
        · -- 249
          refine E_iload dX11_clears_249 rfl ?_
          refine E_iret dX11_clears_251 ?_
          exact ⟨t, rfl, _, rfl, hQ⟩
      · have ht8 : t < 8 := by omega
        obtain ⟨q, hq1, hq2, hq3⟩ := t3 ht8
        obtain ⟨x, hx⟩ : ∃ x : Nat, gM μ2 k k = x := ⟨(gM μ2 k k).toNat, by omega⟩
        have e1 := tws_ok ⟨x, by omega⟩ ⟨t, ht8⟩
        have hxq : x = q * 2 ^ t := by rw [hx] at hq1; exact Int.ofNat.inj hq1
        have hdq : x / 2 ^ t = q := by rw [hxq]; exact Nat.mul_div_cancel _ (Nat.pow_pos (by decide))
        have e1 : Int32.ofInt (x : Int) >>> (Int32.ofInt (t : Int) &&& 31) = Int32.ofInt ((q : Nat) : Int) := by have := e1; simp only at this; rw [hdq] at this; exact this
        have hiv := iv_ok ⟨q, hq3⟩ hq2
        have hinv := m_inverse (G := G) (M := Hp μ2) hq3 hq2
        have ho1 : (ivR q 1 128 * q) % 256 = 1 := hiv.1
        have ho2 : ivR q 1 128 < 256 := hiv.2
        generalize ivR q 1 128 = ow at hinv ho1 ho2
        have hQ : ∀ μ3 : Mem, (∀ r c : Nat, k < r → r < s → k ≤ c → c < s → gM μ3 r c = (gM μ2 r c - tauN μ2 k t ow r * gM μ2 k c) % 256) → (∀ r c : Nat, r < 8 → c < 8 → (r ≤ k ∨ s ≤ r ∨ c < k ∨ s ≤ c) → gM μ3 r c = gM μ2 r c) → (∀ q : Nat, q ≠ 212 → μ3 q = μ2 q) → ∃ t' : Nat, some (vi (t : Int)) = some (vi (t' : Int)) ∧ ∃ μ', Hp μ3 = Hp μ' ∧ ClrQ μ k s t' μ' := by
          intro μ3 g1 g2 g3
          have hd256 : ((2 ^ t : Nat) : Int) ∣ 256 := Int.natCast_dvd_natCast.mpr (show 2 ^ t ∣ 2 ^ 8 from Nat.pow_dvd_pow 2 (by omega))
          refine ⟨t, rfl, μ3, rfl, fun r c hr hc => ?_, fun q hq => by rw [g3 q hq, hfr q hq], t1, fun e he => ?_, fun r c h1 h2 h3 h4 => ?_, hlow⟩
          · by_cases qq : k < r ∧ r < s ∧ k ≤ c ∧ c < s
            · rw [g1 r c qq.1 qq.2.1 qq.2.2.1 qq.2.2.2]
              exact ⟨Int.emod_nonneg _ (by decide), Int.emod_lt_of_pos _ (by decide)⟩
            · rw [g2 r c hr hc (by omega)]; exact hG2 r c hr hc
          · rw [hcnt e]
            refine cnt_elim (τ := fun r => tauN μ2 k t ow r) (p := fun c => gM μ2 k c / (2 ^ t : Nat)) he hk (fun c h1 h2 => g2 k c (by omega) (by omega) (by omega)) (fun r c h1 h2 h3 h4 => ?_) (fun r h1 h2 => ?_) (fun c h1 h2 => ?_) (Or.inl ⟨q, ?_, hq2⟩)
            · rw [g1 r c h1 h2 h3 h4]
              refine ⟨-((gM μ2 r c - tauN μ2 k t ow r * gM μ2 k c) / 256), ?_⟩
              have := Int.mul_ediv_add_emod (gM μ2 r c - tauN μ2 k t ow r * gM μ2 k c) 256
              omega
            · rw [g1 r k h1 h2 (Nat.le_refl _) hk]
              have vr := hG2 r k (by omega) (by omega)
              obtain ⟨y, hy⟩ : ∃ y : Nat, gM μ2 r k = y := ⟨(gM μ2 r k).toNat, by omega⟩
              have hdy : 2 ^ t ∣ y := by have := hdiv r k (by omega) h2 (Nat.le_refl _) hk; rw [hy] at this; exact Int.natCast_dvd_natCast.mp this
              obtain ⟨z, hz⟩ := hdy
              have htau : tauN μ2 k t ow r = z * ow % 256 := by
                unfold tauN
                rw [hy, show ((y : Nat) : Int).toNat = y by omega, hz, Nat.mul_div_cancel_left _ (Nat.pow_pos (by decide))]
              rw [hy, hq1, htau]
              apply Int.emod_eq_zero_of_dvd
              have a1 := Nat.div_add_mod (z * ow) 256
              have a2 := Nat.div_add_mod (ow * q) 256
              rw [ho1] at a2
              have b1 : ((z * ow % 256 : Nat) : Int) = (z : Int) * ow - 256 * ((z * ow / 256 : Nat) : Int) := by
                have : ((256 * (z * ow / 256) + z * ow % 256 : Nat) : Int) = ((z * ow : Nat) : Int) := by rw [a1]
                simp only [Int.natCast_add, Int.natCast_mul] at this ⊢
                omega
              have b2 : (ow : Int) * q = 256 * ((ow * q / 256 : Nat) : Int) + 1 := by
                have : ((256 * (ow * q / 256) + 1 : Nat) : Int) = ((ow * q : Nat) : Int) := by rw [a2]
                simp only [Int.natCast_add, Int.natCast_mul] at this ⊢
                omega
              rw [b1, hz]
              refine ⟨(z * ow / 256 : Nat) * (q * 2 ^ t : Nat) - (2 ^ t : Nat) * z * (ow * q / 256 : Nat), ?_⟩
              have b3 : (z : Int) * ow * (q * (2 ^ t : Nat)) = z * (2 ^ t : Nat) * (256 * ((ow * q / 256 : Nat) : Int) + 1) := by rw [← b2]; grind
              simp only [Int.natCast_mul] at b3 ⊢
              generalize ((2 ^ t : Nat) : Int) = P at b3 ⊢
              grind
            · exact (Int.ediv_mul_cancel (hdiv k c (Nat.le_refl _) hk h1 h2)).symm
            · rw [hq1, Int.natCast_mul, Int.mul_ediv_cancel]
              have : 0 < 2 ^ t := Nat.pow_pos (by decide)
              omega
          · rw [g1 r c (by omega) h2 (by omega) h4]
            have h5 := Int.dvd_sub (hdiv r c (by omega) h2 (by omega) h4) (Int.dvd_trans (hdiv k c (Nat.le_refl _) hk (by omega) h4) (Int.dvd_mul_left (tauN μ2 k t ow r : Int) _))
            have h6 := Int.mul_ediv_add_emod (gM μ2 r c - tauN μ2 k t ow r * gM μ2 k c) 256
            have h7 := Int.dvd_sub h5 (Int.dvd_trans hd256 (Int.dvd_mul_right 256 ((gM μ2 r c - tauN μ2 k t ow r * gM μ2 k c) / 256)))
            rw [show gM μ2 r c - tauN μ2 k t ow r * gM μ2 k c - 256 * ((gM μ2 r c - tauN μ2 k t ow r * gM μ2 k c) / 256) = (gM μ2 r c - tauN μ2 k t ow r * gM μ2 k c) % 256 by omega] at h7
            exact h7
        refine E_aload_n dX11_clears_228 rfl ?_
        refine GX11_36 sk_203 dX11_clears_229 ?_
        refine E_bipush dX11_clears_232 ?_
        refine E_iload_n dX11_clears_234 rfl ?_
        refine E_imul dX11_clears_235 ?_
        refine H_iald sk_212 dX11_clears_236 ?_
        rw [← i9]
        refine E_callSR dX11_clears_237 lkX11_220 (hw) ?_
        refine E_istore dX11_clears_240 ?_
        refine E_iload dX11_clears_242 rfl ?_
        refine E_bipush dX11_clears_244 ?_
        refine E_icmp_ne 252 dX11_clears_246 (fun h246 => ?_) (fun h246 => ?_)
        · -- 252
          refine E_aload_n dX11_clears_252 rfl ?_
          refine GX11_36 sk_203 dX11_clears_253 ?_
          refine E_bipush dX11_clears_256 ?_
          refine E_iload_n dX11_clears_258 rfl ?_
          refine E_imul dX11_clears_259 ?_
          refine H_iald sk_212 dX11_clears_260 ?_
          rw [← i9, hx]
          refine E_iload dX11_clears_261 rfl ?_
          refine E_ishr ((q : Nat)) dX11_clears_263 (e1) ?_
          refine E_callSR dX11_clears_264 lkX11_223 (hinv) ?_
          refine E_istore dX11_clears_267 ?_
          refine E_iload_n dX11_clears_269 rfl ?_
          refine E_iconst dX11_clears_270 ?_
          refine E_iadd dX11_clears_271 ?_
          refine E_istore dX11_clears_272 ?_
          exact el_out (μ := μ2) (Q := fun v M' => ∃ t : Nat, v = some (vi (t : Int)) ∧ ∃ μ', M' = Hp μ' ∧ ClrQ μ k s t μ') hs hk ht8 ho2 hG2 hQ (s - (k + 1)) (k + 1) μ2 _ _ (by omega) (by omega) (fun r c h1 h2 => by omega) (fun r c _ _ _ => rfl) (fun _ _ => rfl)
        · -- 249
          exfalso; omega
    refine E_iload_n dX11_clears_76 rfl ?_
    refine E_bipush dX11_clears_77 ?_
    refine E_idiv dX11_clears_79 ?_
    rw [d1]
    refine E_istore dX11_clears_80 ?_
    refine E_iload_n dX11_clears_82 rfl ?_
    refine E_bipush dX11_clears_83 ?_
    refine E_irem dX11_clears_85 ?_
    rw [d2]
    refine E_istore dX11_clears_86 ?_
    refine E_iconst dX11_clears_88 ?_
    refine E_istore dX11_clears_89 ?_
    refine cl_rows (μ := μ) (by omega) (by omega) (fun μ1 w6 w7 g1 g2 => ?_) 8 0 μ _ (by omega) (fun r j _ _ => by rw [if_neg (by omega)]) (fun _ _ => rfl)
    refine E_iconst dX11_clears_158 (E_istore dX11_clears_159 ?_)
    refine cl_cols (μ := μ1) (a := r0) (by omega) (by omega) (fun μ2 w6 w7 g3 g4 => ?_) 8 0 μ1 w7 (by omega) (fun r j _ _ => by rw [if_neg (by omega)]) (fun _ _ => rfl)
    refine fin μ2 _ w6 w7 (fun r c hr hc => ?_) (fun q hq => by rw [g4 q hq, g2 q hq])
    have q2 := (swp_rg (a := c0) (b := k) (k := 0) (s := 8) (j := c) (by omega) (by omega)).mpr ⟨by omega, hc⟩
    rw [g3 r c hr hc, g1 r _ hr q2.2]
  have h9 : 9 * (k : Int) = 8 * (k : Int) + (k : Int) := by omega
  refine E_bipush dX11_clears_0 ?_
  refine E_iload_n dX11_clears_2 rfl ?_
  refine E_imul dX11_clears_3 ?_
  rw [h9]
  refine E_istore_n dX11_clears_4 ?_
  refine E_iload_n dX11_clears_5 rfl ?_
  refine E_istore dX11_clears_6 ?_
  exact cl_out (μ := μ) hs hk hG tail (s - k) k k k _ (by omega) (Nat.le_refl _) (Nat.le_refl _) hk (Nat.le_refl _) hk (fun r c' h1 h2 => by omega)
end MCLEARS
