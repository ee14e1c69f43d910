/-! the symmetric group of three things, and how homomorphisms into it are counted -/
theorem ac_1 : Cond.methodLink RX5 80 arraycopyName ∈ lw_ok := lw_in (List.mem_of_getElem? (i := 668) (by decide +kernel)) rfl
theorem ac_2 : Cond.native arraycopyName ∈ lw_ok := lw_in (List.mem_of_getElem? (i := 670) (by decide +kernel)) rfl
theorem ac_3 : Cond.static arraycopyName ∈ lw_ok := lw_in (List.mem_of_getElem? (i := 669) (by decide +kernel)) rfl
theorem ac_4 : Cond.initialized "java/lang/System" ∈ lw_ok := lw_in (List.mem_of_getElem? (i := 80) (by decide +kernel)) rfl
theorem H_copyl {G : GT} {y : MI} {Z : ZT} {k n pc idx : Nat} {ls st : List Value} {μ : Mem} {r0 r1 n0 n1 : Nat} {a0 a1 : List Nat} {m : Nat} (h0 : SK[r0]? = some (1, n0, a0)) (h1 : SK[r1]? = some (1, n1, a1)) (hd : decode (iC y) pc = .ok (.invokestatic idx, 3)) (hl : Cond.methodLink (iY y).cls idx arraycopyName ∈ lw_ok) (hm0 : m ≤ n0) (hm1 : m ≤ n1) (hm : m < 2147483648)
    (hf : 1 ≤ iF y) (ho : (st.map fun v => v.category).sum + 18 ≤ iO y) (h : E G y Z k n (pc + 3) ls st (Hp (fun a j => if a = r1 ∧ 0 ≤ j ∧ j < m then μ r0 j else μ a j))) : E G y Z k n pc ls (vi m :: vi 0 :: .ref r1 :: vi 0 :: .ref r0 :: st) (Hp μ) := by
  intro p e s mm args below meth c H locs arr F hl'
  have hz : (Int32.ofInt 0).toNatClampNeg = 0 := by decide
  have hmc : (Int32.ofInt (m : Int)).toNatClampNeg = m := by rw [ix_cl (by omega) (by omega)]; simp
  refine va_copyl (tys := tyG G) F.1 F.2.1 (by rw [F.2.2.1]; exact hl'.1.symm) F.own (F.hts _ hl) (F.hts _ ac_2) (F.hts _ ac_3) (F.hts _ ac_4) F.wo.1 F.wd (mw_D G _) F.hs r0 r1 1 1 (mw_get (Hp_get h0)) (mw_get (Hp_get h1)) rfl rfl rfl (by decide) (by decide) (fun q => absurd ((i_lt (x := (m : Int)) (z := 0) (by omega) (by omega)).mp q) (by omega)) (by rw [hz, hmc, Nat.zero_add]; exact hm0) (by rw [hz, hmc, Nat.zero_add]; exact hm1) (fun i hi => rfl) hf ?_ hd (fun H1 locs1 hP hD hS => ?_)
  · rw [List.map_map]
    have e1 : ((fun v : Value => v.category) ∘ mv G) = fun v => v.category := funext (mv_cat G)
    rw [e1]
    exact ho
  · refine h p e s mm args below meth c H1 locs1 arr (F.upd ?_ hS (by have := F.hz; rw [Hp_len] at this ⊢; exact this)) hl'
    rw [hz, hmc] at hP
    rw [← Hp_set h1 (μ := μ) (fun a ha => by funext j; simp [ha]), ← mw_set]
    have e2 : (fun j : Nat => Int64.ofInt ((fun (a : Nat) (j : Int) => if a = r1 ∧ 0 ≤ j ∧ j < (m : Int) then μ r0 j else μ a j) r1 (j : Int))) = va_cpy (fun j : Nat => Int64.ofInt (μ r0 j)) (fun j : Nat => Int64.ofInt (μ r1 j)) 0 0 m := by
      funext j
      unfold va_cpy
      by_cases hj : j < m
      · rw [if_pos (by omega)]; simp [hj]
      · rw [if_neg (by omega)]; simp [hj]
    have e3 : me G (cell (1, n1, a1) ((fun (a : Nat) (j : Int) => if a = r1 ∧ 0 ≤ j ∧ j < (m : Int) then μ r0 j else μ a j) r1)) = .inl (gC G 1, n1, .inr (.inl (va_cpy (fun j : Nat => Int64.ofInt (μ r0 j)) (fun j : Nat => Int64.ofInt (μ r1 j)) 0 0 m))) := by
      rw [← e2]; rfl
    rw [e3]; exact hP
def sumN : Nat → (Int → Int) → Int
  | 0, _ => 0
  | n + 1, f => sumN n f + f n
theorem sumN_congr {f g : Int → Int} : ∀ n : Nat, (∀ k : Nat, k < n → f k = g k) → sumN n f = sumN n g
  | 0, _ => rfl
  | n + 1, h => by rw [sumN, sumN, sumN_congr n (fun k hk => h k (by omega)), h n (by omega)]
theorem sumN_add (f g : Int → Int) : ∀ n : Nat, sumN n (fun k => f k + g k) = sumN n f + sumN n g
  | 0 => rfl
  | n + 1 => by simp only [sumN, sumN_add f g n]; omega
theorem sumN_zero : ∀ n : Nat, sumN n (fun _ => 0) = 0
  | 0 => rfl
  | n + 1 => by simp [sumN, sumN_zero n]
theorem sumN_delta (f : Int → Int) (q : Nat) : ∀ n : Nat, sumN n (fun k => if (q : Int) = k then f k else 0) = if q < n then f q else 0
  | 0 => by simp [sumN]
  | n + 1 => by
    rw [sumN, sumN_delta f q n]
    by_cases h : q = n
    · subst h; simp
    · by_cases h2 : q < n
      · rw [if_pos h2, if_neg (by omega), if_pos (by omega)]; omega
      · rw [if_neg h2, if_neg (by omega), if_neg (by omega)]; rfl
def tm (x y : Int) : Int := if x < 3 then (x + y) % 3 + (if y < 3 then 0 else 3) else (x - y + 9) % 3 + (if y < 3 then 3 else 0)
theorem tm_rng {x y : Int} : 0 ≤ tm x y ∧ tm x y < 6 := by
  unfold tm; split <;> split <;> omega
theorem tm_tab {x y : Int} (hx : 0 ≤ x ∧ x < 6) (hy : 0 ≤ y ∧ y < 6) : (tabF (6 * x + y).toNat).toInt = tm x y := by
  rcases (show x = 0 ∨ x = 1 ∨ x = 2 ∨ x = 3 ∨ x = 4 ∨ x = 5 by omega) with rfl | rfl | rfl | rfl | rfl | rfl <;> rcases (show y = 0 ∨ y = 1 ∨ y = 2 ∨ y = 3 ∨ y = 4 ∨ y = 5 by omega) with rfl | rfl | rfl | rfl | rfl | rfl <;> decide
def pwN (x : Int) : Nat → Int
  | 0 => 0
  | n + 1 => tm (pwN x n) x
def pw (x e : Int) : Int := pwN x (e % 6).toNat
theorem pwN_rng {x : Int} (n : Nat) : 0 ≤ pwN x n ∧ pwN x n < 6 := by
  cases n with
  | zero => simp [pwN]
  | succ n => exact tm_rng
theorem pw_rng {x e : Int} : 0 ≤ pw x e ∧ pw x e < 6 := pwN_rng _
def cm (x y : Int) : Prop := tm x y = tm y x
def lst (f : Nat → List Int) : Nat → List Int
  | 0 => []
  | n + 1 => lst f n ++ f n
def cnt : List Int → Int → Int
  | [], _ => 0
  | q :: L, y => (if q = y then 1 else 0) + cnt L y
theorem cnt_app (l m : List Int) (y : Int) : cnt (l ++ m) y = cnt l y + cnt m y := by
  induction l with
  | nil => simp [cnt]
  | cons q l ih => simp only [List.cons_append, cnt, ih]; omega
def stp (w : Int → Int) : List Int → Int → Int
  | [], _ => 0
  | q :: L, z => sumN 6 (fun k => if tm k q = z then w k else 0) + stp w L z
theorem stp_app (w : Int → Int) (l m : List Int) (z : Int) : stp w (l ++ m) z = stp w l z + stp w m z := by
  induction l with
  | nil => simp [stp]
  | cons q l ih => simp only [List.cons_append, stp, ih]; omega
def eq6 (f g : Int → Int) : Prop := ∀ z : Int, 0 ≤ z → z < 6 → f z = g z
theorem stp_congr {w w' : Int → Int} (h : eq6 w w') : ∀ (L : List Int) (z : Int), stp w L z = stp w' L z
  | [], _ => rfl
  | q :: L, z => by
    rw [stp, stp, stp_congr h L z]
    congr 1
    exact sumN_congr 6 (fun k hk => by rw [h k (by omega) (by omega)])
def conv (w s : Int → Int) (z : Int) : Int := sumN 6 (fun x => sumN 6 (fun y => if tm x y = z then w x * s y else 0))
theorem conv_cnt (w : Int → Int) (z : Int) : ∀ L : List Int, (∀ q ∈ L, 0 ≤ q ∧ q < 6) → conv w (cnt L) z = stp w L z
  | [], _ => by
    unfold conv
    simp only [cnt, stp, Int.mul_zero, ite_self, sumN_zero]
  | q :: L, h => by
    have ih := conv_cnt w z L (fun x hx => h x (List.mem_cons_of_mem _ hx))
    obtain ⟨q0, q6⟩ := h q List.mem_cons_self
    obtain ⟨k, rfl⟩ : ∃ k : Nat, q = k := ⟨q.toNat, by omega⟩
    rw [stp, ← ih]
    unfold conv
    rw [← sumN_add]
    refine sumN_congr 6 (fun x hx => ?_)
    have e1 : (if tm x k = z then w x else 0) = sumN 6 (fun y => if (k : Int) = y then (if tm x y = z then w x else 0) else 0) := by
      rw [sumN_delta, if_pos (show k < 6 by omega)]
    rw [e1, ← sumN_add]
    refine sumN_congr 6 (fun y hy => ?_)
    simp only [cnt]
    by_cases h1 : tm x y = z
    · simp only [if_pos h1]
      by_cases h2 : (k : Int) = y
      · rw [if_pos h2, if_pos h2, Int.mul_add, Int.mul_one]
      · rw [if_neg h2, if_neg h2, Int.mul_add, Int.mul_zero]
    · simp only [if_neg h1]
      by_cases h2 : (k : Int) = y
      · rw [if_pos h2]; rfl
      · rw [if_neg h2]; rfl
theorem conv_congr {w w' s s' : Int → Int} (h : eq6 w w') (h' : eq6 s s') (z : Int) : conv w s z = conv w' s' z := by
  unfold conv
  refine sumN_congr 6 (fun x hx => sumN_congr 6 (fun y hy => ?_))
  rw [h x (by omega) (by omega), h' y (by omega) (by omega)]
section PERM
variable {G : GT} {M : HV} {μ : Mem} {f : Nat}
theorem c_times {x y : Int} (hx : 0 ≤ x ∧ x < 6) (hy : 0 ≤ y ∧ y < 6) : Ctr G mX5_times [vi x, vi y] M (R1 (vi (tm x y)) M) := by
  refine Ctr.of ?_
  refine E_gets dX5_times_0 flX5_86 ?_
  refine E_bipush dX5_times_3 ?_
  refine E_iload_n dX5_times_5 rfl ?_
  refine E_imul dX5_times_6 ?_
  refine E_iload_n dX5_times_7 rfl ?_
  refine E_iadd dX5_times_8 ?_
  refine E_tld dX5_times_9 (by omega) (by omega) ?_
  rw [tm_tab hx hy]
  refine E_iret dX5_times_10 ?_
  exact ⟨rfl, rfl⟩
theorem c_commute {x y : Int} (hx : 0 ≤ x ∧ x < 6) (hy : 0 ≤ y ∧ y < 6) : Ctr G mX5_commute [vi x, vi y] M (R1 (vi (if tm x y = tm y x then 1 else 0)) M) := by
  refine Ctr.of ?_
  have t1 := tm_rng (x := x) (y := y)
  have t2 := tm_rng (x := y) (y := x)
  refine E_iload_n dX5_commute_0 rfl ?_
  refine E_iload_n dX5_commute_1 rfl ?_
  refine E_callSR dX5_commute_2 lkX5_73 (c_times hx hy) ?_
  refine E_iload_n dX5_commute_5 rfl ?_
  refine E_iload_n dX5_commute_6 rfl ?_
  refine E_callSR dX5_commute_7 lkX5_73 (c_times hy hx) ?_
  refine E_icmp_ne 17 dX5_commute_10 (fun h10 => ?_) (fun h10 => ?_)
  · -- 17
    refine E_iconst dX5_commute_17 ?_
    refine E_zret dX5_commute_18 ?_ (by first | exact Or.inl rfl | exact Or.inr rfl | omega)
    first | (rw [if_pos (by omega)]; exact ⟨rfl, rfl⟩) | (rw [if_neg (by omega)]; exact ⟨rfl, rfl⟩)
  · -- 13
    refine E_iconst dX5_commute_13 ?_
    refine E_goto 18 dX5_commute_14 ?_
    refine E_zret dX5_commute_18 ?_ (by first | exact Or.inl rfl | exact Or.inr rfl | omega)
    first | (rw [if_pos (by omega)]; exact ⟨rfl, rfl⟩) | (rw [if_neg (by omega)]; exact ⟨rfl, rfl⟩)
theorem pow_loop {x e : Int} (hx : 0 ≤ x ∧ x < 6) (n : Nat) (hn : n < 6) : ∀ (t k : Nat), k + t = n →
    E G mX5_power (Zq G mX5_power (R1 (vi (pwN x n)) M)) 0 0 12 [vi x, vi e, vi (pwN x k), vi (n : Int), vi (k : Int)] [] M := by
  intro t
  induction t with
  | zero =>
    intro k e1
    obtain rfl : k = n := by omega
    refine E_iload dX5_power_12 rfl ?_
    refine E_iload_n dX5_power_14 rfl ?_
    refine E_icmp_ge 30 dX5_power_15 (fun h15 => ?_) (fun h15 => ?_)
    · -- 30
      refine E_iload_n dX5_power_30 rfl ?_
      refine E_iret dX5_power_31 ?_
      exact ⟨rfl, rfl⟩
    · -- 18
      exfalso; omega
  | succ t ih =>
    intro k e1
    refine E_iload dX5_power_12 rfl ?_
    refine E_iload_n dX5_power_14 rfl ?_
    refine E_icmp_ge 30 dX5_power_15 (fun h15 => ?_) (fun h15 => ?_)
    · -- 30
      exfalso; omega
    · -- 18
      refine E_iload_n dX5_power_18 rfl ?_
      refine E_iload_n dX5_power_19 rfl ?_
      refine E_callSR dX5_power_20 lkX5_73 (c_times (pwN_rng k) hx) ?_
      refine E_istore_n dX5_power_23 ?_
      refine E_iinc dX5_power_24 rfl ?_
      refine E_goto 12 dX5_power_27 ?_
      exact ih (k + 1) (by omega)
theorem c_power {x e : Int} (hx : 0 ≤ x ∧ x < 6) (he : -2147483648 ≤ e ∧ e < 2147483648) : Ctr G mX5_power [vi x, vi e] M (R1 (vi (pw x e)) M) := by
  refine Ctr.of ?_
  have h1 := Int.emod_nonneg e (show (6 : Int) ≠ 0 by decide)
  have h2 := Int.emod_lt_of_pos e (show (0 : Int) < 6 by decide)
  refine E_iconst dX5_power_0 ?_
  refine E_istore_n dX5_power_1 ?_
  refine E_iload_n dX5_power_2 rfl ?_
  refine E_bipush dX5_power_3 ?_
  refine E_callSR dX5_power_5 lkX5_89 (c_floorModi (x := e) (z := 6) he (by omega)) ?_
  refine E_istore_n dX5_power_8 ?_
  refine E_iconst dX5_power_9 ?_
  refine E_istore dX5_power_10 ?_
  have := pow_loop (G := G) (M := M) (e := e) hx (e % 6).toNat (by omega) (e % 6).toNat 0 (by omega)
  rw [show (((e % 6).toNat : Nat) : Int) = e % 6 by omega] at this
  exact this
theorem c_inv {x : Int} (hx : 0 ≤ x ∧ x < 6) : Ctr G mX5_inverse [vi x] M (R1 (vi (pw x (-1))) M) := by
  refine Ctr.of ?_
  refine E_iload_n dX5_inverse_0 rfl ?_
  refine E_iconst dX5_inverse_1 ?_
  refine E_callSR dX5_inverse_2 lkX5_65 (c_power (e := -1) hx (by omega)) ?_
  refine E_iret dX5_inverse_5 ?_
  exact ⟨rfl, rfl⟩
theorem fill_loop {r : Nat} (hr : SK[r]? = some (1, 6, [])) (v : Int) : ∀ (t k : Nat) (μ' : Mem), k + t = 6 → (∀ j : Int, 0 ≤ j → j < k → μ' r j = v) → Off r 1 μ μ' →
    E G mJ7_fill_d0a16 (Zq G mJ7_fill_d0a16 (V0 (fun μ' => (∀ j : Int, 0 ≤ j → j < 6 → μ' r j = v) ∧ Off r 1 μ μ'))) 0 0 6 [.ref r, vl v, .retAddr 0, vi (k : Int), vi 6] [] (Hp μ') := by
  intro t
  induction t with
  | zero =>
    intro k μ' e1 e2 e3
    refine E_iload_n dJ7_fill_d0a16_6 rfl ?_
    refine E_iload dJ7_fill_d0a16_7 rfl ?_
    refine E_icmp_ge 22 dJ7_fill_d0a16_9 (fun h9 => ?_) (fun h9 => ?_)
    · -- 22
      refine E_vret dJ7_fill_d0a16_22 ?_
      exact ⟨rfl, _, rfl, fun j q1 q2 => e2 j q1 (by omega), e3⟩
    · -- 12
      exfalso; omega
  | succ t ih =>
    intro k μ' e1 e2 e3
    refine E_iload_n dJ7_fill_d0a16_6 rfl ?_
    refine E_iload dJ7_fill_d0a16_7 rfl ?_
    refine E_icmp_ge 22 dJ7_fill_d0a16_9 (fun h9 => ?_) (fun h9 => ?_)
    · -- 22
      exfalso; omega
    · -- 12
      refine E_aload_n dJ7_fill_d0a16_12 rfl ?_
      refine E_iload_n dJ7_fill_d0a16_13 rfl ?_
      refine E_lload_n dJ7_fill_d0a16_14 rfl ?_
      refine H_last hr dJ7_fill_d0a16_15 ?_
      refine E_iinc dJ7_fill_d0a16_16 rfl ?_
      refine E_goto 6 dJ7_fill_d0a16_19 ?_
      refine ih (k + 1) _ (by omega) (fun j q1 q2 => ?_) (e3.up (by omega) (by omega))
      rw [up_r]
      by_cases hj : j = k
      · rw [if_pos hj]
      · rw [if_neg hj]; exact e2 j q1 (by omega)
theorem c_fill {r : Nat} (hr : SK[r]? = some (1, 6, [])) (v : Int) : Ctr G mJ7_fill_d0a16 [.ref r, vl v] (Hp μ) (V0 (fun μ' => (∀ j : Int, 0 ≤ j → j < 6 → μ' r j = v) ∧ Off r 1 μ μ')) := by
  refine Ctr.of ?_
  refine E_iconst dJ7_fill_d0a16_0 ?_
  refine E_istore_n dJ7_fill_d0a16_1 ?_
  refine E_aload_n dJ7_fill_d0a16_2 rfl ?_
  refine H_alen1 hr dJ7_fill_d0a16_3 ?_
  refine E_istore dJ7_fill_d0a16_4 ?_
  exact fill_loop (μ := μ) hr v 6 0 μ (by omega) (fun j q1 q2 => by omega) Off.rf
def okF (h a b : Int) (q : Nat) : List Int := if tm q h = tm h q ∧ tm (pw q a) (pw h b) = 0 then [(q : Int)] else []
def fibL (h a b : Int) : List Int := lst (okF h a b) 6
theorem lst_mem {g : Nat → List Int} {P : Int → Prop} : ∀ n : Nat, (∀ k : Nat, k < n → ∀ x ∈ g k, P x) → ∀ x ∈ lst g n, P x
  | 0, _, x, hx => by simp [lst] at hx
  | n + 1, h, x, hx => by
    rcases List.mem_append.mp hx with hx | hx
    · exact lst_mem n (fun k hk => h k (by omega)) x hx
    · exact h n (by omega) x hx
theorem fibL_rng {h a b : Int} : ∀ q ∈ fibL h a b, 0 ≤ q ∧ q < 6 := lst_mem 6 (fun k hk x hx => by
  unfold okF at hx; split at hx
  · simp at hx; omega
  · simp at hx)
theorem cnt_inc {μ' : Mem} {L : List Int} {q : Int} (hq : 0 ≤ q ∧ q < 6) (e : eq6 (μ' 159) (cnt L)) : eq6 (up μ' 159 q (μ' 159 q + 1) 159) (cnt (L ++ [q])) := by
  intro z z0 z6
  rw [up_r, cnt_app]
  by_cases hz : z = q
  · subst hz; rw [if_pos rfl, e _ z0 z6]; simp [cnt]
  · rw [if_neg hz, e z z0 z6]; simp [cnt]; omega
theorem sf_loop {h a b : Int} (hh : 0 ≤ h ∧ h < 6) (ha : -1000 ≤ a ∧ a ≤ 1000) (hb : -1000 ≤ b ∧ b ≤ 1000) : ∀ (t k : Nat) (μ' : Mem), k + t = 6 → eq6 (μ' 159) (cnt (lst (okF h a b) k)) → Off 159 1 μ μ' →
    E G mX5_stepFibre (Zq G mX5_stepFibre (V0 (fun μ' => eq6 (μ' 159) (cnt (fibL h a b)) ∧ Off 159 1 μ μ'))) 0 0 11 [.ref 157, vi h, vi a, vi b, vi (k : Int)] [] (Hp μ') := by
  intro t
  induction t with
  | zero =>
    intro k μ' e1 e2 e3
    obtain rfl : k = 6 := by omega
    refine E_iload dX5_stepFibre_11 rfl ?_
    refine E_bipush dX5_stepFibre_13 ?_
    refine E_icmp_ge 61 dX5_stepFibre_15 (fun h15 => ?_) (fun h15 => ?_)
    · -- 61
      refine E_vret dX5_stepFibre_61 ?_
      exact ⟨rfl, _, rfl, e2, e3⟩
    · -- 18
      exfalso; omega
  | succ t ih =>
    intro k μ' e1 e2 e3
    have kr : 0 ≤ (k : Int) ∧ (k : Int) < 6 := by omega
    have t1 := tm_rng (x := pw k a) (y := pw h b)
    have g1 : tm k h = tm h k ∧ tm (pw k a) (pw h b) = 0 → eq6 (up μ' 159 k (μ' 159 k + 1) 159) (cnt (lst (okF h a b) (k + 1))) := by
      intro hc
      rw [lst, show okF h a b k = [(k : Int)] from if_pos hc]
      exact cnt_inc kr e2
    have g0 : ¬ (tm k h = tm h k ∧ tm (pw k a) (pw h b) = 0) → eq6 (μ' 159) (cnt (lst (okF h a b) (k + 1))) := by
      intro hc
      rw [lst, show okF h a b k = [] from if_neg hc, List.append_nil]
      exact e2
    by_cases hc1 : tm k h = tm h k
    · by_cases hc2 : tm (pw k a) (pw h b) = 0
      · have hcc := c_commute (G := G) (M := Hp μ') kr hh
        rw [if_pos hc1] at hcc
        refine E_iload dX5_stepFibre_11 rfl ?_
        refine E_bipush dX5_stepFibre_13 ?_
        refine E_icmp_ge 61 dX5_stepFibre_15 (fun h15 => ?_) (fun h15 => ?_)
        · -- 61
          exfalso; omega
        · -- 18
          refine E_iload dX5_stepFibre_18 rfl ?_
          refine E_iload_n dX5_stepFibre_20 rfl ?_
          refine E_callSR dX5_stepFibre_21 lkX5_69 (hcc) ?_
          refine E_if_eq 55 dX5_stepFibre_24 (fun h24 => ?_) (fun h24 => ?_)
          · -- 55
            refine E_iinc dX5_stepFibre_55 rfl ?_
            refine E_goto 11 dX5_stepFibre_58 ?_
            first | (exfalso; omega) | exact ih (k + 1) _ (by omega) (g1 ⟨hc1, hc2⟩) (e3.up (by omega) (by omega))
          · -- 27
            refine E_iload dX5_stepFibre_27 rfl ?_
            refine E_iload_n dX5_stepFibre_29 rfl ?_
            refine E_callSR dX5_stepFibre_30 lkX5_65 (c_power (e := a) kr (by omega)) ?_
            refine E_iload_n dX5_stepFibre_33 rfl ?_
            refine E_iload_n dX5_stepFibre_34 rfl ?_
            refine E_callSR dX5_stepFibre_35 lkX5_65 (c_power (e := b) hh (by omega)) ?_
            refine E_callSR dX5_stepFibre_38 lkX5_73 (c_times pw_rng pw_rng) ?_
            refine E_if_ne 55 dX5_stepFibre_41 (fun h41 => ?_) (fun h41 => ?_)
            · -- 55
              refine E_iinc dX5_stepFibre_55 rfl ?_
              refine E_goto 11 dX5_stepFibre_58 ?_
              first | (exfalso; omega) | exact ih (k + 1) _ (by omega) (g1 ⟨hc1, hc2⟩) (e3.up (by omega) (by omega))
            · -- 44
              refine E_aload_n dX5_stepFibre_44 rfl ?_
              refine GX5_13 sk_157 dX5_stepFibre_45 ?_
              refine E_iload dX5_stepFibre_48 rfl ?_
              refine E_dup2 dX5_stepFibre_50 ?_
              refine H_lald sk_159 dX5_stepFibre_51 ?_
              refine E_lconst1 dX5_stepFibre_52 ?_
              refine E_ladd dX5_stepFibre_53 ?_
              refine H_last sk_159 dX5_stepFibre_54 ?_
              refine E_iinc dX5_stepFibre_55 rfl ?_
              refine E_goto 11 dX5_stepFibre_58 ?_
              first | (exfalso; omega) | exact ih (k + 1) _ (by omega) (g1 ⟨hc1, hc2⟩) (e3.up (by omega) (by omega))
      · have hcc := c_commute (G := G) (M := Hp μ') kr hh
        rw [if_pos hc1] at hcc
        refine E_iload dX5_stepFibre_11 rfl ?_
        refine E_bipush dX5_stepFibre_13 ?_
        refine E_icmp_ge 61 dX5_stepFibre_15 (fun h15 => ?_) (fun h15 => ?_)
        · -- 61
          exfalso; omega
        · -- 18
          refine E_iload dX5_stepFibre_18 rfl ?_
          refine E_iload_n dX5_stepFibre_20 rfl ?_
          refine E_callSR dX5_stepFibre_21 lkX5_69 (hcc) ?_
          refine E_if_eq 55 dX5_stepFibre_24 (fun h24 => ?_) (fun h24 => ?_)
          · -- 55
            refine E_iinc dX5_stepFibre_55 rfl ?_
            refine E_goto 11 dX5_stepFibre_58 ?_
            first | (exfalso; omega) | exact ih (k + 1) _ (by omega) (g0 (fun q => hc2 q.2)) e3
          · -- 27
            refine E_iload dX5_stepFibre_27 rfl ?_
            refine E_iload_n dX5_stepFibre_29 rfl ?_
            refine E_callSR dX5_stepFibre_30 lkX5_65 (c_power (e := a) kr (by omega)) ?_
            refine E_iload_n dX5_stepFibre_33 rfl ?_
            refine E_iload_n dX5_stepFibre_34 rfl ?_
            refine E_callSR dX5_stepFibre_35 lkX5_65 (c_power (e := b) hh (by omega)) ?_
            refine E_callSR dX5_stepFibre_38 lkX5_73 (c_times pw_rng pw_rng) ?_
            refine E_if_ne 55 dX5_stepFibre_41 (fun h41 => ?_) (fun h41 => ?_)
            · -- 55
              refine E_iinc dX5_stepFibre_55 rfl ?_
              refine E_goto 11 dX5_stepFibre_58 ?_
              first | (exfalso; omega) | exact ih (k + 1) _ (by omega) (g0 (fun q => hc2 q.2)) e3
            · -- 44
              exfalso; omega
    · have hcc := c_commute (G := G) (M := Hp μ') kr hh
      rw [if_neg hc1] at hcc
      refine E_iload dX5_stepFibre_11 rfl ?_
      refine E_bipush dX5_stepFibre_13 ?_
      refine E_icmp_ge 61 dX5_stepFibre_15 (fun h15 => ?_) (fun h15 => ?_)
      · -- 61
        exfalso; omega
      · -- 18
        refine E_iload dX5_stepFibre_18 rfl ?_
        refine E_iload_n dX5_stepFibre_20 rfl ?_
        refine E_callSR dX5_stepFibre_21 lkX5_69 (hcc) ?_
        refine E_if_eq 55 dX5_stepFibre_24 (fun h24 => ?_) (fun h24 => ?_)
        · -- 55
          refine E_iinc dX5_stepFibre_55 rfl ?_
          refine E_goto 11 dX5_stepFibre_58 ?_
          exact ih (k + 1) _ (by omega) (g0 (fun q => hc1 q.1)) e3
        · -- 27
          exfalso; omega
theorem c_stepFibre {h a b : Int} (hh : 0 ≤ h ∧ h < 6) (ha : -1000 ≤ a ∧ a ≤ 1000) (hb : -1000 ≤ b ∧ b ≤ 1000) : Ctr G mX5_stepFibre [.ref 157, vi h, vi a, vi b] (Hp μ) (V0 (fun μ' => eq6 (μ' 159) (cnt (fibL h a b)) ∧ Off 159 1 μ μ')) := by
  refine Ctr.of ?_
  refine E_aload_n dX5_stepFibre_0 rfl ?_
  refine GX5_13 sk_157 dX5_stepFibre_1 ?_
  refine E_lconst0 dX5_stepFibre_4 ?_
  refine E_callSV dX5_stepFibre_5 lkX5_23 (c_fill sk_159 0) ?_
  rintro μ1 ⟨a1, a2⟩
  refine E_iconst dX5_stepFibre_8 ?_
  refine E_istore dX5_stepFibre_9 ?_
  exact sf_loop (μ := μ) hh ha hb 6 0 μ1 (by omega) (fun z z0 z6 => by rw [a1 z z0 z6]; rfl) a2
def okC (h : Int) (v : Nat) : List Int := if tm v h = tm (pw h (-1)) v then [tm v v] else []
def croL (h : Int) : List Int := lst (okC h) 6
theorem croL_rng {h : Int} : ∀ q ∈ croL h, 0 ≤ q ∧ q < 6 := lst_mem 6 (fun k hk x hx => by
  unfold okC at hx; split at hx
  · simp at hx; rw [hx]; exact tm_rng
  · simp at hx)
theorem sc_loop {h : Int} (hh : 0 ≤ h ∧ h < 6) : ∀ (t k : Nat) (μ' : Mem), k + t = 6 → eq6 (μ' 159) (cnt (lst (okC h) k)) → Off 159 1 μ μ' →
    E G mX5_stepCrosscap (Zq G mX5_stepCrosscap (V0 (fun μ' => eq6 (μ' 159) (cnt (croL h)) ∧ Off 159 1 μ μ'))) 0 0 10 [.ref 157, vi h, vi (k : Int)] [] (Hp μ') := by
  intro t
  induction t with
  | zero =>
    intro k μ' e1 e2 e3
    obtain rfl : k = 6 := by omega
    refine E_iload_n dX5_stepCrosscap_10 rfl ?_
    refine E_bipush dX5_stepCrosscap_11 ?_
    refine E_icmp_ge 52 dX5_stepCrosscap_13 (fun h13 => ?_) (fun h13 => ?_)
    · -- 52
      refine E_vret dX5_stepCrosscap_52 ?_
      exact ⟨rfl, _, rfl, e2, e3⟩
    · -- 16
      exfalso; omega
  | succ t ih =>
    intro k μ' e1 e2 e3
    have kr : 0 ≤ (k : Int) ∧ (k : Int) < 6 := by omega
    have t1 := tm_rng (x := k) (y := h)
    have t2 := tm_rng (x := pw h (-1)) (y := k)
    have t3 := tm_rng (x := k) (y := k)
    have g1 : tm k h = tm (pw h (-1)) k → eq6 (up μ' 159 (tm k k) (μ' 159 (tm k k) + 1) 159) (cnt (lst (okC h) (k + 1))) := by
      intro hc
      rw [lst, show okC h k = [tm k k] from if_pos hc]
      exact cnt_inc t3 e2
    have g0 : ¬ (tm k h = tm (pw h (-1)) k) → eq6 (μ' 159) (cnt (lst (okC h) (k + 1))) := by
      intro hc
      rw [lst, show okC h k = [] from if_neg hc, List.append_nil]
      exact e2
    refine E_iload_n dX5_stepCrosscap_10 rfl ?_
    refine E_bipush dX5_stepCrosscap_11 ?_
    refine E_icmp_ge 52 dX5_stepCrosscap_13 (fun h13 => ?_) (fun h13 => ?_)
    · -- 52
      exfalso; omega
    · -- 16
      refine E_iload_n dX5_stepCrosscap_16 rfl ?_
      refine E_iload_n dX5_stepCrosscap_17 rfl ?_
      refine E_callSR dX5_stepCrosscap_18 lkX5_73 (c_times kr hh) ?_
      refine E_iload_n dX5_stepCrosscap_21 rfl ?_
      refine E_callSR dX5_stepCrosscap_22 lkX5_76 (c_inv hh) ?_
      refine E_iload_n dX5_stepCrosscap_25 rfl ?_
      refine E_callSR dX5_stepCrosscap_26 lkX5_73 (c_times pw_rng kr) ?_
      refine E_icmp_ne 46 dX5_stepCrosscap_29 (fun h29 => ?_) (fun h29 => ?_)
      · -- 46
        refine E_iinc dX5_stepCrosscap_46 rfl ?_
        refine E_goto 10 dX5_stepCrosscap_49 ?_
        first | exact ih (k + 1) _ (by omega) (g1 (by omega)) (e3.up (by omega) (by omega)) | exact ih (k + 1) _ (by omega) (g0 (by omega)) e3
      · -- 32
        refine E_aload_n dX5_stepCrosscap_32 rfl ?_
        refine GX5_13 sk_157 dX5_stepCrosscap_33 ?_
        refine E_iload_n dX5_stepCrosscap_36 rfl ?_
        refine E_iload_n dX5_stepCrosscap_37 rfl ?_
        refine E_callSR dX5_stepCrosscap_38 lkX5_73 (c_times kr kr) ?_
        refine E_dup2 dX5_stepCrosscap_41 ?_
        refine H_lald sk_159 dX5_stepCrosscap_42 ?_
        refine E_lconst1 dX5_stepCrosscap_43 ?_
        refine E_ladd dX5_stepCrosscap_44 ?_
        refine H_last sk_159 dX5_stepCrosscap_45 ?_
        refine E_iinc dX5_stepCrosscap_46 rfl ?_
        refine E_goto 10 dX5_stepCrosscap_49 ?_
        first | exact ih (k + 1) _ (by omega) (g1 (by omega)) (e3.up (by omega) (by omega)) | exact ih (k + 1) _ (by omega) (g0 (by omega)) e3
theorem c_stepCrosscap {h : Int} (hh : 0 ≤ h ∧ h < 6) : Ctr G mX5_stepCrosscap [.ref 157, vi h] (Hp μ) (V0 (fun μ' => eq6 (μ' 159) (cnt (croL h)) ∧ Off 159 1 μ μ')) := by
  refine Ctr.of ?_
  refine E_aload_n dX5_stepCrosscap_0 rfl ?_
  refine GX5_13 sk_157 dX5_stepCrosscap_1 ?_
  refine E_lconst0 dX5_stepCrosscap_4 ?_
  refine E_callSV dX5_stepCrosscap_5 lkX5_23 (c_fill sk_159 0) ?_
  rintro μ1 ⟨a1, a2⟩
  refine E_iconst dX5_stepCrosscap_8 ?_
  refine E_istore_n dX5_stepCrosscap_9 ?_
  exact sc_loop (μ := μ) hh 6 0 μ1 (by omega) (fun z z0 z6 => by rw [a1 z z0 z6]; rfl) a2
def comm2 (x y : Int) : Int := tm (tm x y) (tm (pw x (-1)) (pw y (-1)))
def okH (h : Int) (x y : Nat) : List Int := if tm x h = tm h x ∧ tm y h = tm h y then [comm2 x y] else []
def hanL (h : Int) : List Int := lst (fun x => lst (okH h x) 6) 6
theorem hanL_rng {h : Int} : ∀ q ∈ hanL h, 0 ≤ q ∧ q < 6 := lst_mem 6 (fun k hk => lst_mem 6 (fun j hj x hx => by
  unfold okH at hx; split at hx
  · simp at hx; rw [hx]; exact tm_rng
  · simp at hx))
theorem sh_inner {h : Int} (hh : 0 ≤ h ∧ h < 6) {Q : QT} (x : Nat) (hx : x < 6) (L : List Int) : ∀ (t k : Nat) (μ' : Mem), k + t = 6 → eq6 (μ' 159) (cnt (L ++ lst (okH h x) k)) → Off 159 1 μ μ' →
    (∀ μ2 : Mem, eq6 (μ2 159) (cnt (L ++ lst (okH h x) 6)) → Off 159 1 μ μ2 → E G mX5_stepHandle (Zq G mX5_stepHandle Q) 0 0 74 [.ref 157, vi h, vi (x : Int), vi 6] [] (Hp μ2)) →
    E G mX5_stepHandle (Zq G mX5_stepHandle Q) 0 0 18 [.ref 157, vi h, vi (x : Int), vi (k : Int)] [] (Hp μ') := by
  intro t
  induction t with
  | zero =>
    intro k μ' e1 e2 e3 hk
    obtain rfl : k = 6 := by omega
    refine E_iload_n dX5_stepHandle_18 rfl ?_
    refine E_bipush dX5_stepHandle_19 ?_
    refine E_icmp_ge 74 dX5_stepHandle_21 (fun h21 => ?_) (fun h21 => ?_)
    · -- 74
      exact hk μ' e2 e3
    · -- 24
      exfalso; omega
  | succ t ih =>
    intro k μ' e1 e2 e3 hk
    have kr : 0 ≤ (k : Int) ∧ (k : Int) < 6 := by omega
    have xr : 0 ≤ (x : Int) ∧ (x : Int) < 6 := by omega
    have t3 : 0 ≤ comm2 x k ∧ comm2 x k < 6 := tm_rng
    have g1 : tm x h = tm h x ∧ tm k h = tm h k → eq6 (up μ' 159 (comm2 x k) (μ' 159 (comm2 x k) + 1) 159) (cnt (L ++ lst (okH h x) (k + 1))) := by
      intro hc
      rw [lst, show okH h x k = [comm2 x k] from if_pos hc, ← List.append_assoc]
      exact cnt_inc t3 e2
    have g0 : ¬ (tm x h = tm h x ∧ tm k h = tm h k) → eq6 (μ' 159) (cnt (L ++ lst (okH h x) (k + 1))) := by
      intro hc
      rw [lst, show okH h x k = [] from if_neg hc, List.append_nil]
      exact e2
    have c1 := c_commute (G := G) (M := Hp μ') xr hh
    have c2 := c_commute (G := G) (M := Hp μ') kr hh
    by_cases q1 : tm x h = tm h x
    · rw [if_pos q1] at c1
      by_cases q2 : tm k h = tm h k
      · rw [if_pos q2] at c2
        refine E_iload_n dX5_stepHandle_18 rfl ?_
        refine E_bipush dX5_stepHandle_19 ?_
        refine E_icmp_ge 74 dX5_stepHandle_21 (fun h21 => ?_) (fun h21 => ?_)
        · -- 74
          exfalso; omega
        · -- 24
          refine E_iload_n dX5_stepHandle_24 rfl ?_
          refine E_iload_n dX5_stepHandle_25 rfl ?_
          refine E_callSR dX5_stepHandle_26 lkX5_69 (c1) ?_
          refine E_if_eq 68 dX5_stepHandle_29 (fun h29 => ?_) (fun h29 => ?_)
          · -- 68
            refine E_iinc dX5_stepHandle_68 rfl ?_
            refine E_goto 18 dX5_stepHandle_71 ?_
            first | (exfalso; omega) | exact ih (k + 1) _ (by omega) (g1 ⟨q1, q2⟩) (e3.up (by omega) (by omega)) hk
          · -- 32
            refine E_iload_n dX5_stepHandle_32 rfl ?_
            refine E_iload_n dX5_stepHandle_33 rfl ?_
            refine E_callSR dX5_stepHandle_34 lkX5_69 (c2) ?_
            refine E_if_eq 68 dX5_stepHandle_37 (fun h37 => ?_) (fun h37 => ?_)
            · -- 68
              refine E_iinc dX5_stepHandle_68 rfl ?_
              refine E_goto 18 dX5_stepHandle_71 ?_
              first | (exfalso; omega) | exact ih (k + 1) _ (by omega) (g1 ⟨q1, q2⟩) (e3.up (by omega) (by omega)) hk
            · -- 40
              refine E_aload_n dX5_stepHandle_40 rfl ?_
              refine GX5_13 sk_157 dX5_stepHandle_41 ?_
              refine E_iload_n dX5_stepHandle_44 rfl ?_
              refine E_iload_n dX5_stepHandle_45 rfl ?_
              refine E_callSR dX5_stepHandle_46 lkX5_73 (c_times xr kr) ?_
              refine E_iload_n dX5_stepHandle_49 rfl ?_
              refine E_callSR dX5_stepHandle_50 lkX5_76 (c_inv xr) ?_
              refine E_iload_n dX5_stepHandle_53 rfl ?_
              refine E_callSR dX5_stepHandle_54 lkX5_76 (c_inv kr) ?_
              refine E_callSR dX5_stepHandle_57 lkX5_73 (c_times pw_rng pw_rng) ?_
              refine E_callSR dX5_stepHandle_60 lkX5_73 (c_times tm_rng tm_rng) ?_
              change E G mX5_stepHandle (Zq G mX5_stepHandle Q) 0 0 63 [.ref 157, vi h, vi (x : Int), vi (k : Int)] [vi (comm2 x k), .ref 159] (Hp μ')
              refine E_dup2 dX5_stepHandle_63 ?_
              refine H_lald sk_159 dX5_stepHandle_64 ?_
              refine E_lconst1 dX5_stepHandle_65 ?_
              refine E_ladd dX5_stepHandle_66 ?_
              refine H_last sk_159 dX5_stepHandle_67 ?_
              refine E_iinc dX5_stepHandle_68 rfl ?_
              refine E_goto 18 dX5_stepHandle_71 ?_
              first | (exfalso; omega) | exact ih (k + 1) _ (by omega) (g1 ⟨q1, q2⟩) (e3.up (by omega) (by omega)) hk
      · rw [if_neg q2] at c2
        refine E_iload_n dX5_stepHandle_18 rfl ?_
        refine E_bipush dX5_stepHandle_19 ?_
        refine E_icmp_ge 74 dX5_stepHandle_21 (fun h21 => ?_) (fun h21 => ?_)
        · -- 74
          exfalso; omega
        · -- 24
          refine E_iload_n dX5_stepHandle_24 rfl ?_
          refine E_iload_n dX5_stepHandle_25 rfl ?_
          refine E_callSR dX5_stepHandle_26 lkX5_69 (c1) ?_
          refine E_if_eq 68 dX5_stepHandle_29 (fun h29 => ?_) (fun h29 => ?_)
          · -- 68
            refine E_iinc dX5_stepHandle_68 rfl ?_
            refine E_goto 18 dX5_stepHandle_71 ?_
            first | (exfalso; omega) | exact ih (k + 1) _ (by omega) (g0 (fun q => q2 q.2)) e3 hk
          · -- 32
            refine E_iload_n dX5_stepHandle_32 rfl ?_
            refine E_iload_n dX5_stepHandle_33 rfl ?_
            refine E_callSR dX5_stepHandle_34 lkX5_69 (c2) ?_
            refine E_if_eq 68 dX5_stepHandle_37 (fun h37 => ?_) (fun h37 => ?_)
            · -- 68
              refine E_iinc dX5_stepHandle_68 rfl ?_
              refine E_goto 18 dX5_stepHandle_71 ?_
              first | (exfalso; omega) | exact ih (k + 1) _ (by omega) (g0 (fun q => q2 q.2)) e3 hk
            · -- 40
              exfalso; omega
    · rw [if_neg q1] at c1
      refine E_iload_n dX5_stepHandle_18 rfl ?_
      refine E_bipush dX5_stepHandle_19 ?_
      refine E_icmp_ge 74 dX5_stepHandle_21 (fun h21 => ?_) (fun h21 => ?_)
      · -- 74
        exfalso; omega
      · -- 24
        refine E_iload_n dX5_stepHandle_24 rfl ?_
        refine E_iload_n dX5_stepHandle_25 rfl ?_
        refine E_callSR dX5_stepHandle_26 lkX5_69 (c1) ?_
        refine E_if_eq 68 dX5_stepHandle_29 (fun h29 => ?_) (fun h29 => ?_)
        · -- 68
          refine E_iinc dX5_stepHandle_68 rfl ?_
          refine E_goto 18 dX5_stepHandle_71 ?_
          exact ih (k + 1) _ (by omega) (g0 (fun q => q1 q.1)) e3 hk
        · -- 32
          exfalso; omega
theorem sh_outer {h : Int} (hh : 0 ≤ h ∧ h < 6) : ∀ (t k : Nat) (w : Value) (μ' : Mem), k + t = 6 → eq6 (μ' 159) (cnt (lst (fun x => lst (okH h x) 6) k)) → Off 159 1 μ μ' →
    E G mX5_stepHandle (Zq G mX5_stepHandle (V0 (fun μ' => eq6 (μ' 159) (cnt (hanL h)) ∧ Off 159 1 μ μ'))) 0 0 10 [.ref 157, vi h, vi (k : Int), w] [] (Hp μ') := by
  intro t
  induction t with
  | zero =>
    intro k w μ' e1 e2 e3
    obtain rfl : k = 6 := by omega
    refine E_iload_n dX5_stepHandle_10 rfl ?_
    refine E_bipush dX5_stepHandle_11 ?_
    refine E_icmp_ge 80 dX5_stepHandle_13 (fun h13 => ?_) (fun h13 => ?_)
    · -- 80
      refine E_vret dX5_stepHandle_80 ?_
      exact ⟨rfl, _, rfl, e2, e3⟩
    · -- 16
      exfalso; omega
  | succ t ih =>
    intro k w μ' e1 e2 e3
    refine E_iload_n dX5_stepHandle_10 rfl ?_
    refine E_bipush dX5_stepHandle_11 ?_
    refine E_icmp_ge 80 dX5_stepHandle_13 (fun h13 => ?_) (fun h13 => ?_)
    · -- 80
      exfalso; omega
    · -- 16
      refine E_iconst dX5_stepHandle_16 ?_
      refine E_istore_n dX5_stepHandle_17 ?_
      refine sh_inner (G := G) (μ := μ) hh k (by omega) (lst (fun x => lst (okH h x) 6) k) 6 0 μ' (by omega) (by simpa [lst] using e2) e3 (fun μ2 q1 q2 => ?_)
      refine E_iinc dX5_stepHandle_74 rfl ?_
      refine E_goto 10 dX5_stepHandle_77 ?_
      exact ih (k + 1) _ μ2 (by omega) q1 q2
theorem c_stepHandle {h : Int} (hh : 0 ≤ h ∧ h < 6) : Ctr G mX5_stepHandle [.ref 157, vi h] (Hp μ) (V0 (fun μ' => eq6 (μ' 159) (cnt (hanL h)) ∧ Off 159 1 μ μ')) := by
  refine Ctr.of ?_
  refine E_aload_n dX5_stepHandle_0 rfl ?_
  refine GX5_13 sk_157 dX5_stepHandle_1 ?_
  refine E_lconst0 dX5_stepHandle_4 ?_
  refine E_callSV dX5_stepHandle_5 lkX5_23 (c_fill sk_159 0) ?_
  rintro μ1 ⟨a1, a2⟩
  refine E_iconst dX5_stepHandle_8 ?_
  refine E_istore_n dX5_stepHandle_9 ?_
  exact sh_outer (μ := μ) hh 6 0 _ μ1 (by omega) (fun z z0 z6 => by rw [a1 z z0 z6]; rfl) a2
def tmT (w s : Int → Int) (z x y : Int) : Int := if tm x y = z then w x * s y else 0
theorem mu_inner {Q : QT} (w s : Int → Int) (i : Nat) (hi : i < 6) (B : Int → Int) : ∀ (t k : Nat) (μ' : Mem), k + t = 6 → (∀ z : Int, 0 ≤ z → z < 6 → μ' 160 z = B z + sumN k (fun y => tmT w s z i y)) → μ' 158 = w → μ' 159 = s → Off 160 1 μ μ' →
    (∀ μ2 : Mem, (∀ z : Int, 0 ≤ z → z < 6 → μ2 160 z = B z + sumN 6 (fun y => tmT w s z i y)) → μ2 158 = w → μ2 159 = s → Off 160 1 μ μ2 → E G mX5_multiply (Zq G mX5_multiply Q) 0 0 56 [.ref 157, vi (i : Int), vi 6] [] (Hp μ2)) →
    E G mX5_multiply (Zq G mX5_multiply Q) 0 0 18 [.ref 157, vi (i : Int), vi (k : Int)] [] (Hp μ') := by
  intro t
  induction t with
  | zero =>
    intro k μ' e1 e2 e3 e4 e5 hk
    obtain rfl : k = 6 := by omega
    refine E_iload_n dX5_multiply_18 rfl ?_
    refine E_bipush dX5_multiply_19 ?_
    refine E_icmp_ge 56 dX5_multiply_21 (fun h21 => ?_) (fun h21 => ?_)
    · -- 56
      exact hk μ' e2 e3 e4 e5
    · -- 24
      exfalso; omega
  | succ t ih =>
    intro k μ' e1 e2 e3 e4 e5 hk
    have kr : 0 ≤ (k : Int) ∧ (k : Int) < 6 := by omega
    have ir : 0 ≤ (i : Int) ∧ (i : Int) < 6 := by omega
    have t3 := tm_rng (x := i) (y := k)
    refine E_iload_n dX5_multiply_18 rfl ?_
    refine E_bipush dX5_multiply_19 ?_
    refine E_icmp_ge 56 dX5_multiply_21 (fun h21 => ?_) (fun h21 => ?_)
    · -- 56
      exfalso; omega
    · -- 24
      refine E_aload_n dX5_multiply_24 rfl ?_
      refine GX5_16 sk_157 dX5_multiply_25 ?_
      refine E_iload_n dX5_multiply_28 rfl ?_
      refine E_iload_n dX5_multiply_29 rfl ?_
      refine E_callSR dX5_multiply_30 lkX5_73 (c_times ir kr) ?_
      refine E_dup2 dX5_multiply_33 ?_
      refine H_lald sk_160 dX5_multiply_34 ?_
      refine E_aload_n dX5_multiply_35 rfl ?_
      refine GX5_9 sk_157 dX5_multiply_36 ?_
      refine E_iload_n dX5_multiply_39 rfl ?_
      refine H_lald sk_158 dX5_multiply_40 ?_
      rw [e3]
      refine E_aload_n dX5_multiply_41 rfl ?_
      refine GX5_13 sk_157 dX5_multiply_42 ?_
      refine E_iload_n dX5_multiply_45 rfl ?_
      refine H_lald sk_159 dX5_multiply_46 ?_
      rw [e4]
      refine E_lmul dX5_multiply_47 ?_
      refine E_ladd dX5_multiply_48 ?_
      refine H_last sk_160 dX5_multiply_49 ?_
      refine E_iinc dX5_multiply_50 rfl ?_
      refine E_goto 18 dX5_multiply_53 ?_
      refine ih (k + 1) _ (by omega) (fun z z0 z6 => ?_) (by rw [up_ne 158 (by decide)]; exact e3) (by rw [up_ne 159 (by decide)]; exact e4) (e5.up (by omega) (by omega)) hk
      rw [up_r, sumN]
      by_cases hz : z = tm i k
      · subst hz; rw [if_pos rfl, e2 _ z0 z6]; simp only [tmT, if_pos]; omega
      · rw [if_neg hz, e2 z z0 z6]; simp only [tmT, if_neg (Ne.symm hz)]; omega
theorem mu_outer {Q : QT} (w s : Int → Int) : ∀ (t k : Nat) (v : Value) (μ' : Mem), k + t = 6 → (∀ z : Int, 0 ≤ z → z < 6 → μ' 160 z = sumN k (fun x => sumN 6 (fun y => tmT w s z x y))) → μ' 158 = w → μ' 159 = s → Off 160 1 μ μ' →
    (∀ (v : Value) (μ2 : Mem), eq6 (μ2 160) (conv w s) → μ2 158 = w → μ2 159 = s → Off 160 1 μ μ2 → E G mX5_multiply (Zq G mX5_multiply Q) 0 0 62 [.ref 157, vi 6, v] [] (Hp μ2)) →
    E G mX5_multiply (Zq G mX5_multiply Q) 0 0 10 [.ref 157, vi (k : Int), v] [] (Hp μ') := by
  intro t
  induction t with
  | zero =>
    intro k v μ' e1 e2 e3 e4 e5 hk
    obtain rfl : k = 6 := by omega
    refine E_iload_n dX5_multiply_10 rfl ?_
    refine E_bipush dX5_multiply_11 ?_
    refine E_icmp_ge 62 dX5_multiply_13 (fun h13 => ?_) (fun h13 => ?_)
    · -- 62
      exact hk _ μ' e2 e3 e4 e5
    · -- 16
      exfalso; omega
  | succ t ih =>
    intro k v μ' e1 e2 e3 e4 e5 hk
    refine E_iload_n dX5_multiply_10 rfl ?_
    refine E_bipush dX5_multiply_11 ?_
    refine E_icmp_ge 62 dX5_multiply_13 (fun h13 => ?_) (fun h13 => ?_)
    · -- 62
      exfalso; omega
    · -- 16
      refine E_iconst dX5_multiply_16 ?_
      refine E_istore_n dX5_multiply_17 ?_
      refine mu_inner (G := G) (μ := μ) w s k (by omega) (fun z => sumN k (fun x => sumN 6 (fun y => tmT w s z x y))) 6 0 μ' (by omega) (fun z z0 z6 => by rw [e2 z z0 z6]; simp [sumN]) e3 e4 e5 (fun μ2 q1 q2 q3 q4 => ?_)
      refine E_iinc dX5_multiply_56 rfl ?_
      refine E_goto 10 dX5_multiply_59 ?_
      exact ih (k + 1) _ μ2 (by omega) q1 q2 q3 q4 hk
theorem c_multiply (L : List Int) (hL : ∀ q ∈ L, 0 ≤ q ∧ q < 6) (w : Int → Int) (hw : eq6 (μ 158) w) (hs : eq6 (μ 159) (cnt L)) : Ctr G mX5_multiply [.ref 157] (Hp μ) (V0 (fun μ' => eq6 (μ' 158) (stp w L) ∧ μ' 159 = μ 159 ∧ Off 157 4 μ μ')) := by
  refine Ctr.of ?_
  refine E_aload_n dX5_multiply_0 rfl ?_
  refine GX5_16 sk_157 dX5_multiply_1 ?_
  refine E_lconst0 dX5_multiply_4 ?_
  refine E_callSV dX5_multiply_5 lkX5_23 (c_fill sk_160 0) ?_
  rintro μ1 ⟨a1, a2⟩
  refine E_iconst dX5_multiply_8 ?_
  refine E_istore_n dX5_multiply_9 ?_
  refine mu_outer (G := G) (μ := μ) (μ 158) (μ 159) 6 0 _ μ1 (by omega) (fun z z0 z6 => by rw [a1 z z0 z6]; rfl) (a2 158 (by omega)) (a2 159 (by omega)) a2 (fun v μ2 q1 q2 q3 q4 => ?_)
  refine E_aload_n dX5_multiply_62 rfl ?_
  refine GX5_16 sk_157 dX5_multiply_63 ?_
  refine E_iconst dX5_multiply_66 ?_
  refine E_aload_n dX5_multiply_67 rfl ?_
  refine GX5_9 sk_157 dX5_multiply_68 ?_
  refine E_iconst dX5_multiply_71 ?_
  refine E_bipush dX5_multiply_72 ?_
  refine H_copyl (m := 6) sk_160 sk_158 dX5_multiply_74 ac_1 (by decide) (by decide) (by decide) (by decide) (by decide) ?_
  refine E_vret dX5_multiply_77 ⟨rfl, _, rfl, ?_, ?_, ?_⟩
  · intro z z0 z6
    simp only
    rw [if_pos ⟨trivial, z0, z6⟩, q1 z z0 z6, conv_congr hw hs, conv_cnt w z L hL]
  · simp only [show ¬ (159 = 158) by decide, false_and, if_false]; exact q3
  · intro a ha
    funext j
    simp only [show ¬ (a = 158) by omega, false_and, if_false]
    rw [q4 a (by omega)]
/-- the ways to assign the generators so far, by their product -/
def wayF (h : Int) : List Fib → (Int → Int) → (Int → Int)
  | [], w => w
  | x :: t, w => wayF h t (stp w (fibL h x.1 x.2))
def wayG (L : List Int) : Nat → (Int → Int) → (Int → Int)
  | 0, w => w
  | n + 1, w => wayG L n (stp w L)
def one0 : Int → Int := fun z => if z = 0 then 1 else 0
def wayS (h : Int) (s : Sp) : Int := wayG (if s.1 = 0 then hanL h else croL h) s.2.1.toNat (wayF h s.2.2.2 one0) (pw h s.2.2.1)
def threeS (s : Sp) : Int := sumN 6 (fun h => wayS h s)
theorem eq6_trans {a b c : Int → Int} (h : eq6 a b) (h' : eq6 b c) : eq6 a c := fun z z0 z6 => (h z z0 z6).trans (h' z z0 z6)
theorem ww_gen {s : Sp} {h : Int} (hf : isSp f) (hfd : f + 3 ≤ 157 ∨ 161 ≤ f) (hs : RepS μ f s) (hok : spOk s) (hh : 0 ≤ h ∧ h < 6) (L : List Int) (hL : ∀ q ∈ L, 0 ≤ q ∧ q < 6) : ∀ (t k : Nat) (w : Int → Int) (μ' : Mem), (k : Int) + t = s.2.1 → eq6 (μ' 158) w → eq6 (μ' 159) (cnt L) → Off 157 4 μ μ' →
    E G mX5_waysWith (Zq G mX5_waysWith (V1 (vl (wayG L t w (pw h s.2.2.1))) (fun μ' => Off 157 4 μ μ'))) 0 0 74 [.ref 157, .ref f, vi h, vi (k : Int)] [] (Hp μ') := by
  have kg := hok.2.2.1
  have ks1 := hok.2.2.2.1
  have ks2 := hok.2.2.2.2.1
  intro t
  induction t with
  | zero =>
    intro k w μ' e1 e2 e3 e4
    have hs' := hs.off e4 (by omega)
    have eg := hs'.2.1
    have hp := pw_rng (x := h) (e := s.2.2.1)
    refine E_iload_n dX5_waysWith_74 rfl ?_
    refine E_aload_n dX5_waysWith_75 rfl ?_
    refine GX5_59 hf.1 dX5_waysWith_76 ?_
    refine E_icmp_ge 92 dX5_waysWith_79 (fun h79 => ?_) (fun h79 => ?_)
    · -- 92
      refine E_aload_n dX5_waysWith_92 rfl ?_
      refine GX5_9 sk_157 dX5_waysWith_93 ?_
      refine E_iload_n dX5_waysWith_96 rfl ?_
      refine E_aload_n dX5_waysWith_97 rfl ?_
      refine GX5_62 hf.1 dX5_waysWith_98 ?_
      rw [hs'.2.2.1]
      refine E_callSR dX5_waysWith_101 lkX5_65 (c_power (e := s.2.2.1) hh (by omega)) ?_
      refine H_lald sk_158 dX5_waysWith_104 ?_
      rw [e2 _ hp.1 hp.2]
      refine E_lret dX5_waysWith_105 ?_
      exact ⟨rfl, _, rfl, e4⟩
    · -- 82
      exfalso; omega
  | succ t ih =>
    intro k w μ' e1 e2 e3 e4
    have hs' := hs.off e4 (by omega)
    have eg := hs'.2.1
    refine E_iload_n dX5_waysWith_74 rfl ?_
    refine E_aload_n dX5_waysWith_75 rfl ?_
    refine GX5_59 hf.1 dX5_waysWith_76 ?_
    refine E_icmp_ge 92 dX5_waysWith_79 (fun h79 => ?_) (fun h79 => ?_)
    · -- 92
      exfalso; omega
    · -- 82
      refine E_aload_n dX5_waysWith_82 rfl ?_
      refine E_callVV dX5_waysWith_83 lkX5_46 (Hp_get sk_157) (c_multiply L hL w e2 e3) ?_
      rintro μ2 ⟨g1, g2, g3⟩
      refine E_iinc dX5_waysWith_86 rfl ?_
      refine E_goto 74 dX5_waysWith_89 ?_
      exact ih (k + 1) (stp w L) μ2 (by omega) g1 (by rw [g2]; exact e3) (e4.tr g3)
theorem ww_fib {s : Sp} {h : Int} (hf : isSp f) (hfd : f + 3 ≤ 157 ∨ 161 ≤ f) (hs : RepS μ f s) (hok : spOk s) (hh : 0 ≤ h ∧ h < 6) : ∀ (q p : List Fib) (w : Int → Int) (μ' : Mem), p ++ q = s.2.2.2 → eq6 (μ' 158) w → Off 157 4 μ μ' →
    E G mX5_waysWith (Zq G mX5_waysWith (V1 (vl (wayG (if s.1 = 0 then hanL h else croL h) s.2.1.toNat (wayF h q w) (pw h s.2.2.1))) (fun μ' => Off 157 4 μ μ'))) 0 0 17 [.ref 157, .ref f, vi h, vi (p.length : Int)] [] (Hp μ') := by
  have kb := hok.2.2.2.2.2.1
  have ksp := hok.1
  have kg1 := hok.2.1
  have kg2 := hok.2.2.1
  intro q
  induction q with
  | nil =>
    intro p w μ' e1 e2 e4
    have hs' := hs.off e4 (by omega)
    have hl : (p.length : Int) = μ' f 3 := by rw [hs'.2.2.2.1, ← e1]; simp
    have hb2 : p.length ≤ 6 := by rw [← e1] at kb; simp at kb; omega
    have ek := hs'.1
    refine E_iload_n dX5_waysWith_17 rfl ?_
    refine E_aload_n dX5_waysWith_18 rfl ?_
    refine GX5_29 hf.1 dX5_waysWith_19 ?_
    refine E_icmp_ge 52 dX5_waysWith_22 (fun h22 => ?_) (fun h22 => ?_)
    · -- 52
      refine E_aload_n dX5_waysWith_52 rfl ?_
      refine GX5_49 hf.1 dX5_waysWith_53 ?_
      refine E_if_ne 67 dX5_waysWith_56 (fun h56 => ?_) (fun h56 => ?_)
      · -- 67
        refine E_aload_n dX5_waysWith_67 rfl ?_
        refine E_iload_n dX5_waysWith_68 rfl ?_
        refine E_callVV dX5_waysWith_69 lkX5_56 (Hp_get sk_157) (c_stepCrosscap hh) ?_
        rintro μ2 ⟨g1, g2⟩
        rw [if_neg (show ¬ s.1 = 0 by omega)]
        have hL := croL_rng (h := h)
        refine E_iconst dX5_waysWith_72 ?_
        refine E_istore_n dX5_waysWith_73 ?_
        exact ww_gen (μ := μ) hf hfd hs hok hh _ hL s.2.1.toNat 0 w μ2 (by omega) (by rw [g2 158 (by omega)]; exact e2) g1 (e4.tr (g2.wide (by omega) (by omega)))
      · -- 59
        refine E_aload_n dX5_waysWith_59 rfl ?_
        refine E_iload_n dX5_waysWith_60 rfl ?_
        refine E_callVV dX5_waysWith_61 lkX5_52 (Hp_get sk_157) (c_stepHandle hh) ?_
        rintro μ2 ⟨g1, g2⟩
        rw [if_pos (show s.1 = 0 by omega)]
        have hL := hanL_rng (h := h)
        refine E_goto 72 dX5_waysWith_64 ?_
        refine E_iconst dX5_waysWith_72 ?_
        refine E_istore_n dX5_waysWith_73 ?_
        exact ww_gen (μ := μ) hf hfd hs hok hh _ hL s.2.1.toNat 0 w μ2 (by omega) (by rw [g2 158 (by omega)]; exact e2) g1 (e4.tr (g2.wide (by omega) (by omega)))
    · -- 25
      exfalso; omega
  | cons x q ih =>
    intro p w μ' e1 e2 e4
    have hs' := hs.off e4 (by omega)
    have hl : (p.length : Int) + 1 + q.length = μ' f 3 := by rw [hs'.2.2.2.1, ← e1]; simp; omega
    have hb2 : p.length + 1 + q.length ≤ 6 := by rw [← e1] at kb; simp at kb; omega
    have hx := hok.2.2.2.2.2.2 x (by rw [← e1]; simp)
    have hat := hs'.2.2.2.2.2 p.length x (by rw [← e1]; simp)
    obtain ⟨x1, x2, x3, x4, -⟩ := id hx
    refine E_iload_n dX5_waysWith_17 rfl ?_
    refine E_aload_n dX5_waysWith_18 rfl ?_
    refine GX5_29 hf.1 dX5_waysWith_19 ?_
    refine E_icmp_ge 52 dX5_waysWith_22 (fun h22 => ?_) (fun h22 => ?_)
    · -- 52
      exfalso; omega
    · -- 25
      refine E_aload_n dX5_waysWith_25 rfl ?_
      refine E_iload_n dX5_waysWith_26 rfl ?_
      refine E_aload_n dX5_waysWith_27 rfl ?_
      refine GX5_35 hf.1 dX5_waysWith_28 ?_
      refine E_iload_n dX5_waysWith_31 rfl ?_
      refine H_iald hf.2.1 dX5_waysWith_32 ?_
      rw [hat.1]
      refine E_aload_n dX5_waysWith_33 rfl ?_
      refine GX5_39 hf.1 dX5_waysWith_34 ?_
      refine E_iload_n dX5_waysWith_37 rfl ?_
      refine H_iald hf.2.2 dX5_waysWith_38 ?_
      rw [hat.2]
      refine E_callVV dX5_waysWith_39 lkX5_42 (Hp_get sk_157) (c_stepFibre (a := x.1) (b := x.2) hh (by omega) (by omega)) ?_
      rintro μ2 ⟨g1, g2⟩
      refine E_aload_n dX5_waysWith_42 rfl ?_
      refine E_callVV dX5_waysWith_43 lkX5_46 (Hp_get sk_157) (c_multiply (fibL h x.1 x.2) fibL_rng w (by rw [g2 158 (by omega)]; exact e2) g1) ?_
      rintro μ3 ⟨g3, g4, g5⟩
      refine E_iinc dX5_waysWith_46 rfl ?_
      refine E_goto 17 dX5_waysWith_49 ?_
      have := ih (p ++ [x]) (stp w (fibL h x.1 x.2)) μ3 (by rw [← e1]; simp) g3 ((e4.tr (g2.wide (by omega) (by omega))).tr g5)
      rw [show ((p ++ [x]).length : Int) = (p.length : Int) + 1 by simp] at this
      exact this
theorem c_waysWith {s : Sp} {h : Int} (hf : isSp f) (hfd : f + 3 ≤ 157 ∨ 161 ≤ f) (hs : RepS μ f s) (hok : spOk s) (hh : 0 ≤ h ∧ h < 6) : Ctr G mX5_waysWith [.ref 157, .ref f, vi h] (Hp μ) (V1 (vl (wayS h s)) (fun μ' => Off 157 4 μ μ')) := by
  refine Ctr.of ?_
  refine E_aload_n dX5_waysWith_0 rfl ?_
  refine GX5_9 sk_157 dX5_waysWith_1 ?_
  refine E_lconst0 dX5_waysWith_4 ?_
  refine E_callSV dX5_waysWith_5 lkX5_23 (c_fill sk_158 0) ?_
  rintro μ1 ⟨a1, a2⟩
  refine E_aload_n dX5_waysWith_8 rfl ?_
  refine GX5_9 sk_157 dX5_waysWith_9 ?_
  refine E_iconst dX5_waysWith_12 ?_
  refine E_lconst1 dX5_waysWith_13 ?_
  refine H_last sk_158 dX5_waysWith_14 ?_
  refine E_iconst dX5_waysWith_15 ?_
  refine E_istore_n dX5_waysWith_16 ?_
  refine ww_fib (μ := μ) hf hfd hs hok hh s.2.2.2 [] one0 _ rfl ?_ ((a2.wide (by omega) (by omega)).up (by omega) (by omega))
  intro z z0 z6
  rw [up_r]
  unfold one0
  split
  · rfl
  · exact a1 z z0 z6
theorem ways_loop {s : Sp} (hf : isSp f) (hfd : f + 3 ≤ 157 ∨ 161 ≤ f) (hs : RepS μ f s) (hok : spOk s) : ∀ (t k : Nat) (μ' : Mem), k + t = 6 → Off 157 4 μ μ' →
    E G mX5_ways (Zq G mX5_ways (V1 (vl (threeS s)) (fun μ' => Off 157 4 μ μ'))) 0 0 5 [.ref 157, .ref f, vl (sumN k (fun h => wayS h s)), .retAddr 0, vi (k : Int)] [] (Hp μ') := by
  intro t
  induction t with
  | zero =>
    intro k μ' e1 e2
    obtain rfl : k = 6 := by omega
    refine E_iload dX5_ways_5 rfl ?_
    refine E_bipush dX5_ways_7 ?_
    refine E_icmp_ge 28 dX5_ways_9 (fun h9 => ?_) (fun h9 => ?_)
    · -- 28
      refine E_lload_n dX5_ways_28 rfl ?_
      refine E_lret dX5_ways_29 ?_
      exact ⟨rfl, _, rfl, e2⟩
    · -- 12
      exfalso; omega
  | succ t ih =>
    intro k μ' e1 e2
    refine E_iload dX5_ways_5 rfl ?_
    refine E_bipush dX5_ways_7 ?_
    refine E_icmp_ge 28 dX5_ways_9 (fun h9 => ?_) (fun h9 => ?_)
    · -- 28
      exfalso; omega
    · -- 12
      refine E_lload_n dX5_ways_12 rfl ?_
      refine E_aload_n dX5_ways_13 rfl ?_
      refine E_aload_n dX5_ways_14 rfl ?_
      refine E_iload dX5_ways_15 rfl ?_
      refine E_callVW dX5_ways_17 lkX5_19 (Hp_get sk_157) (c_waysWith (h := (k : Int)) hf hfd (hs.off e2 (by omega)) hok (by omega)) ?_
      rintro μ2 g1
      refine E_ladd dX5_ways_20 ?_
      refine E_lstore_n dX5_ways_21 ?_
      refine E_iinc dX5_ways_22 rfl ?_
      refine E_goto 5 dX5_ways_25 ?_
      exact ih (k + 1) μ2 (by omega) (e2.tr g1)
theorem c_ways {s : Sp} (hf : isSp f) (hfd : f + 3 ≤ 157 ∨ 161 ≤ f) (hs : RepS μ f s) (hok : spOk s) : Ctr G mX5_ways [.ref 157, .ref f] (Hp μ) (V1 (vl (threeS s)) (fun μ' => Off 157 4 μ μ')) := by
  refine Ctr.of ?_
  refine E_lconst0 dX5_ways_0 ?_
  refine E_lstore_n dX5_ways_1 ?_
  refine E_iconst dX5_ways_2 ?_
  refine E_istore dX5_ways_3 ?_
  exact ways_loop (μ := μ) hf hfd hs hok 6 0 μ (by omega) Off.rf
end PERM
