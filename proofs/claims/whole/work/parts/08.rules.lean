theorem i_in {x : Int} (h : -2147483648 ≤ x ∧ x < 2147483648) : (Int32.ofInt x).toInt = x := Int32.toInt_ofInt_of_le (by simpa using h.1) (by simpa using h.2)
theorem l_in {x : Int} (h : -9223372036854775808 ≤ x ∧ x < 9223372036854775808) : (Int64.ofInt x).toInt = x := Int64.toInt_ofInt_of_le (by simpa using h.1) (by simpa using h.2)
theorem i_le {x z : Int} (hx : -2147483648 ≤ x ∧ x < 2147483648) (hz : -2147483648 ≤ z ∧ z < 2147483648) : Int32.ofInt x ≤ Int32.ofInt z ↔ x ≤ z := by rw [Int32.le_iff_toInt_le, i_in hx, i_in hz]
theorem i_lt {x z : Int} (hx : -2147483648 ≤ x ∧ x < 2147483648) (hz : -2147483648 ≤ z ∧ z < 2147483648) : Int32.ofInt x < Int32.ofInt z ↔ x < z := by rw [Int32.lt_iff_toInt_lt, i_in hx, i_in hz]
theorem i_eq {x z : Int} (hx : -2147483648 ≤ x ∧ x < 2147483648) (hz : -2147483648 ≤ z ∧ z < 2147483648) : Int32.ofInt x = Int32.ofInt z ↔ x = z := by rw [← Int32.toInt_inj, i_in hx, i_in hz]
theorem l_le {x z : Int} (hx : -9223372036854775808 ≤ x ∧ x < 9223372036854775808) (hz : -9223372036854775808 ≤ z ∧ z < 9223372036854775808) : Int64.ofInt x ≤ Int64.ofInt z ↔ x ≤ z := by rw [Int64.le_iff_toInt_le, l_in hx, l_in hz]
theorem l_lt {x z : Int} (hx : -9223372036854775808 ≤ x ∧ x < 9223372036854775808) (hz : -9223372036854775808 ≤ z ∧ z < 9223372036854775808) : Int64.ofInt x < Int64.ofInt z ↔ x < z := by rw [Int64.lt_iff_toInt_lt, l_in hx, l_in hz]
theorem l_eq {x z : Int} (hx : -9223372036854775808 ≤ x ∧ x < 9223372036854775808) (hz : -9223372036854775808 ≤ z ∧ z < 9223372036854775808) : Int64.ofInt x = Int64.ofInt z ↔ x = z := by rw [← Int64.toInt_inj, l_in hx, l_in hz]
theorem i_0 : Int32.ofInt 0 = 0 := rfl
theorem i_div {x z : Int} (hx : -2147483648 ≤ x ∧ x < 2147483648) (hz : -2147483648 ≤ z ∧ z < 2147483648) : Int32.ofInt x / Int32.ofInt z = Int32.ofInt (x.tdiv z) := by
  rw [← Int32.toInt_inj, Int32.toInt_div, i_in hx, i_in hz, Int32.toInt_ofInt]
theorem l_div {x z : Int} (hx : -9223372036854775808 ≤ x ∧ x < 9223372036854775808) (hz : -9223372036854775808 ≤ z ∧ z < 9223372036854775808) : Int64.ofInt x / Int64.ofInt z = Int64.ofInt (x.tdiv z) := by
  rw [← Int64.toInt_inj, Int64.toInt_div, l_in hx, l_in hz, Int64.toInt_ofInt]
theorem i_rem {x z : Int} (hx : -2147483648 ≤ x ∧ x < 2147483648) (hz : -2147483648 ≤ z ∧ z < 2147483648) : Int32.ofInt x - Int32.ofInt x / Int32.ofInt z * Int32.ofInt z = Int32.ofInt (x.tmod z) := by
  rw [i_div hx hz, ← Int32.ofInt_mul, ← Int32.ofInt_sub, Int.tmod_def, Int.mul_comm z]
theorem l_rem {x z : Int} (hx : -9223372036854775808 ≤ x ∧ x < 9223372036854775808) (hz : -9223372036854775808 ≤ z ∧ z < 9223372036854775808) : Int64.ofInt x - Int64.ofInt x / Int64.ofInt z * Int64.ofInt z = Int64.ofInt (x.tmod z) := by
  rw [l_div hx hz, ← Int64.ofInt_mul, ← Int64.ofInt_sub, Int.tmod_def, Int.mul_comm z]
theorem i2l_e {x : Int} (hx : -2147483648 ≤ x ∧ x < 2147483648) : (Int32.ofInt x).toInt64 = Int64.ofInt x := by
  rw [← Int64.toInt_inj, Int32.toInt_toInt64, i_in hx, l_in (by omega)]
theorem l2i_e (x : Int) : (Int64.ofInt x).toInt32 = Int32.ofInt x := by
  rw [← Int32.toInt_inj, Int64.toInt_toInt32, Int64.toInt_ofInt, Int32.toInt_ofInt]
  exact Int.bmod_bmod_of_dvd (by decide)
theorem E.eq {G : GT} {y : MI} {Z : ZT} {k n pc : Nat} {ls st : List Value} {M : HV} {pc' : Nat} {ls' st' : List Value} {M' : HV} (h : E G y Z k n pc' ls' st' M') (e1 : pc = pc') (e2 : ls = ls') (e3 : st = st') (e4 : M = M') : E G y Z k n pc ls st M := by
  subst e1 e2 e3 e4; exact h

theorem E_iconst {G : GT} {y : MI} {Z : ZT} {k n pc : Nat} {ls st : List Value} {M : HV} {a : Int} (hd : decode (iC y) pc = .ok (.iconst a, 1)) (h : E G y Z k n (pc + 1) ls (vi a :: st) M) : E G y Z k n pc ls st M := by
  intro p e s m args below meth c H locs arr F hl
  obtain ⟨hx, hb, -⟩ := id F
  exact lv_iconst hx hb hd rfl (h p e s m args below meth c H locs arr F hl)
theorem bi_e {a : Int} (ha : -128 ≤ a ∧ a < 128) : (Int8.ofInt a).toInt32 = Int32.ofInt a := by
  rw [← Int32.toInt_inj, Int8.toInt_toInt32, Int8.toInt_ofInt_of_le (by simpa using ha.1) (by simpa using ha.2), i_in (by omega)]
theorem si_e {a : Int} (ha : -32768 ≤ a ∧ a < 32768) : (Int16.ofInt a).toInt32 = Int32.ofInt a := by
  rw [← Int32.toInt_inj, Int16.toInt_toInt32, Int16.toInt_ofInt_of_le (by simpa using ha.1) (by simpa using ha.2), i_in (by omega)]
theorem E_bipush {G : GT} {y : MI} {Z : ZT} {k n pc : Nat} {ls st : List Value} {M : HV} {a : Int} (hd : decode (iC y) pc = .ok (.bipush a, 2)) (h : E G y Z k n (pc + 2) ls (vi a :: st) M) (ha : -128 ≤ a ∧ a < 128 := by decide) : E G y Z k n pc ls st M := by
  intro p e s m args below meth c H locs arr F hl
  obtain ⟨hx, hb, -⟩ := id F
  exact lv_bipush hx hb hd (bi_e ha) (h p e s m args below meth c H locs arr F hl)
theorem E_sipush {G : GT} {y : MI} {Z : ZT} {k n pc : Nat} {ls st : List Value} {M : HV} {a : Int} (hd : decode (iC y) pc = .ok (.sipush a, 3)) (h : E G y Z k n (pc + 3) ls (vi a :: st) M) (ha : -32768 ≤ a ∧ a < 32768 := by decide) : E G y Z k n pc ls st M := by
  intro p e s m args below meth c H locs arr F hl
  obtain ⟨hx, hb, -⟩ := id F
  exact lv_sipush hx hb hd (si_e ha) (h p e s m args below meth c H locs arr F hl)
theorem E_lconst {G : GT} {y : MI} {Z : ZT} {k n pc : Nat} {ls st : List Value} {M : HV} {a : Fin 2} (hd : decode (iC y) pc = .ok (.lconst a, 1)) (h : E G y Z k n (pc + 1) ls (vl ((a : Nat) : Int) :: st) M) : E G y Z k n pc ls st M := by
  intro p e s m args below meth c H locs arr F hl
  obtain ⟨hx, hb, -⟩ := id F
  exact lv_lconst hx hb hd rfl (h p e s m args below meth c H locs arr F hl)
theorem E_lconst0 {G : GT} {y : MI} {Z : ZT} {k n pc : Nat} {ls st : List Value} {M : HV} (hd : decode (iC y) pc = .ok (.lconst 0, 1)) (h : E G y Z k n (pc + 1) ls (vl 0 :: st) M) : E G y Z k n pc ls st M := E_lconst hd h
theorem E_lconst1 {G : GT} {y : MI} {Z : ZT} {k n pc : Nat} {ls st : List Value} {M : HV} (hd : decode (iC y) pc = .ok (.lconst 1, 1)) (h : E G y Z k n (pc + 1) ls (vl 1 :: st) M) : E G y Z k n pc ls st M := E_lconst hd h
theorem E_ldc2 {G : GT} {y : MI} {Z : ZT} {k n pc : Nat} {ls st : List Value} {M : HV} {i : Nat} {a : Int} (hd : decode (iC y) pc = .ok (.ldc2_w i, 3)) (hw : Cond.constantLong (iY y).cls i (Int64.ofInt a) ∈ lw_ok) (h : E G y Z k n (pc + 3) ls (vl a :: st) M) : E G y Z k n pc ls st M := by
  intro p e s m args below meth c H locs arr F hl
  obtain ⟨hx, hb, -⟩ := id F
  exact lv_ldc2 hx hb F.2.2.2.2.2.2.1 (F.2.2.2.2.2.2.2.1 _ hw) hd (h p e s m args below meth c H locs arr F hl)
theorem E_ldcw {G : GT} {y : MI} {Z : ZT} {k n pc : Nat} {ls st : List Value} {M : HV} {i : Nat} {a : Int} (hd : decode (iC y) pc = .ok (.ldc_w i, 3)) (hw : Cond.constant (iY y).cls i (Int32.ofInt a) ∈ lw_ok) (h : E G y Z k n (pc + 3) ls (vi a :: st) M) : E G y Z k n pc ls st M := by
  intro p e s m args below meth c H locs arr F hl
  obtain ⟨hx, hb, -⟩ := id F
  exact lv_ldcw hx hb F.2.2.2.2.2.2.1 (F.2.2.2.2.2.2.2.1 _ hw) hd (h p e s m args below meth c H locs arr F hl)
theorem Lo.at {G : GT} {n i : Nat} {arr : Array Slot} {ls : List Value} {v : Value} (h : Lo G n arr ls) (hi : ls[i]? = some v) (hv : v ≠ .retAddr 0) : arr[i]? = some (.val (mv G v)) := h.2.2 i v hi hv
theorem E_iload {G : GT} {y : MI} {Z : ZT} {k n pc : Nat} {ls st : List Value} {M : HV} {i : Nat} {x : Int} (hd : decode (iC y) pc = .ok (.iload i, 2)) (hi : ls[i]? = some (vi x)) (h : E G y Z k n (pc + 2) ls (vi x :: st) M) : E G y Z k n pc ls st M := by
  intro p e s m args below meth c H locs arr F hl
  obtain ⟨hx, hb, -⟩ := id F
  exact lv_iload hx hb hd (hl.at hi (by simp [vi])) (h p e s m args below meth c H locs arr F hl)
theorem E_iload_n {G : GT} {y : MI} {Z : ZT} {k n pc : Nat} {ls st : List Value} {M : HV} {i : Fin 4} {x : Int} (hd : decode (iC y) pc = .ok (.iload_n i, 1)) (hi : ls[(i : Nat)]? = some (vi x)) (h : E G y Z k n (pc + 1) ls (vi x :: st) M) : E G y Z k n pc ls st M := by
  intro p e s m args below meth c H locs arr F hl
  obtain ⟨hx, hb, -⟩ := id F
  exact lv_iload_n hx hb hd rfl (hl.at hi (by simp [vi])) (h p e s m args below meth c H locs arr F hl)
theorem E_lload {G : GT} {y : MI} {Z : ZT} {k n pc : Nat} {ls st : List Value} {M : HV} {i : Nat} {x : Int} (hd : decode (iC y) pc = .ok (.lload i, 2)) (hi : ls[i]? = some (vl x)) (h : E G y Z k n (pc + 2) ls (vl x :: st) M) : E G y Z k n pc ls st M := by
  intro p e s m args below meth c H locs arr F hl
  obtain ⟨hx, hb, -⟩ := id F
  exact lv_lload hx hb hd (hl.at hi (by simp [vl])) (h p e s m args below meth c H locs arr F hl)
theorem E_lload_n {G : GT} {y : MI} {Z : ZT} {k n pc : Nat} {ls st : List Value} {M : HV} {i : Fin 4} {x : Int} (hd : decode (iC y) pc = .ok (.lload_n i, 1)) (hi : ls[(i : Nat)]? = some (vl x)) (h : E G y Z k n (pc + 1) ls (vl x :: st) M) : E G y Z k n pc ls st M := by
  intro p e s m args below meth c H locs arr F hl
  obtain ⟨hx, hb, -⟩ := id F
  exact lv_lload_n hx hb hd rfl (hl.at hi (by simp [vl])) (h p e s m args below meth c H locs arr F hl)
theorem E_aload {G : GT} {y : MI} {Z : ZT} {k n pc : Nat} {ls st : List Value} {M : HV} {i : Nat} {r : Nat} (hd : decode (iC y) pc = .ok (.aload i, 2)) (hi : ls[i]? = some (.ref r)) (h : E G y Z k n (pc + 2) ls (.ref r :: st) M) : E G y Z k n pc ls st M := by
  intro p e s m args below meth c H locs arr F hl
  obtain ⟨hx, hb, -⟩ := id F
  exact lv_aload hx hb hd (hl.at hi (by simp)) (h p e s m args below meth c H locs arr F hl)
theorem E_aload_n {G : GT} {y : MI} {Z : ZT} {k n pc : Nat} {ls st : List Value} {M : HV} {i : Fin 4} {r : Nat} (hd : decode (iC y) pc = .ok (.aload_n i, 1)) (hi : ls[(i : Nat)]? = some (.ref r)) (h : E G y Z k n (pc + 1) ls (.ref r :: st) M) : E G y Z k n pc ls st M := by
  intro p e s m args below meth c H locs arr F hl
  obtain ⟨hx, hb, -⟩ := id F
  exact lv_aload_n hx hb hd rfl (hl.at hi (by simp)) (h p e s m args below meth c H locs arr F hl)
theorem E_aload_s {G : GT} {y : MI} {Z : ZT} {k n pc : Nat} {ls st : List Value} {M : HV} {i : Fin 4} (hd : decode (iC y) pc = .ok (.aload_n i, 1)) (hi : ls[(i : Nat)]? = some (.retAddr 1)) (h : E G y Z k n (pc + 1) ls (.retAddr 1 :: st) M) : E G y Z k n pc ls st M := by
  intro p e s m args below meth c H locs arr F hl
  obtain ⟨hx, hb, -⟩ := id F
  exact lv_aload_n hx hb hd rfl (hl.at hi (by simp)) (h p e s m args below meth c H locs arr F hl)
theorem E_istore {G : GT} {y : MI} {Z : ZT} {k n pc : Nat} {ls st : List Value} {M : HV} {i : Nat} {x : Int} (hd : decode (iC y) pc = .ok (.istore i, 2)) (h : E G y Z k n (pc + 2) (s1 ls i (vi x)) st M) (hn : i < iL y := by decide) : E G y Z k n pc ls (vi x :: st) M := by
  intro p e s m args below meth c H locs arr F hl
  obtain ⟨hx, hb, -⟩ := id F
  exact lv_istore hx hb hd hl.has hn rfl (fun arr' h' => h p e s m args below meth c H locs arr' F (hl.st1 rfl h'))
theorem E_istore_n {G : GT} {y : MI} {Z : ZT} {k n pc : Nat} {ls st : List Value} {M : HV} {i : Fin 4} {x : Int} (hd : decode (iC y) pc = .ok (.istore_n i, 1)) (h : E G y Z k n (pc + 1) (s1 ls (i : Nat) (vi x)) st M) (hn : (i : Nat) < iL y := by decide) : E G y Z k n pc ls (vi x :: st) M := by
  intro p e s m args below meth c H locs arr F hl
  obtain ⟨hx, hb, -⟩ := id F
  exact lv_istore_n hx hb hd rfl hl.has hn rfl (fun arr' h' => h p e s m args below meth c H locs arr' F (hl.st1 rfl h'))
theorem E_lstore {G : GT} {y : MI} {Z : ZT} {k n pc : Nat} {ls st : List Value} {M : HV} {i : Nat} {x : Int} (hd : decode (iC y) pc = .ok (.lstore i, 2)) (h : E G y Z k n (pc + 2) (s2 ls i (vl x)) st M) (hn : i + 1 < iL y := by decide) : E G y Z k n pc ls (vl x :: st) M := by
  intro p e s m args below meth c H locs arr F hl
  obtain ⟨hx, hb, -⟩ := id F
  exact lv_lstore hx hb hd hl.has hn rfl (fun arr' h' => h p e s m args below meth c H locs arr' F (hl.st2 rfl h'))
theorem E_lstore_n {G : GT} {y : MI} {Z : ZT} {k n pc : Nat} {ls st : List Value} {M : HV} {i : Fin 4} {x : Int} (hd : decode (iC y) pc = .ok (.lstore_n i, 1)) (h : E G y Z k n (pc + 1) (s2 ls (i : Nat) (vl x)) st M) (hn : (i : Nat) + 1 < iL y := by decide) : E G y Z k n pc ls (vl x :: st) M := by
  intro p e s m args below meth c H locs arr F hl
  obtain ⟨hx, hb, -⟩ := id F
  exact lv_lstore_n hx hb hd rfl hl.has hn rfl (fun arr' h' => h p e s m args below meth c H locs arr' F (hl.st2 rfl h'))
theorem E_astore {G : GT} {y : MI} {Z : ZT} {k n pc : Nat} {ls st : List Value} {M : HV} {i : Nat} {r : Nat} (hd : decode (iC y) pc = .ok (.astore i, 2)) (h : E G y Z k n (pc + 2) (s1 ls i (.ref r)) st M) (hn : i < iL y := by decide) : E G y Z k n pc ls (.ref r :: st) M := by
  intro p e s m args below meth c H locs arr F hl
  obtain ⟨hx, hb, -⟩ := id F
  exact lv_astore hx hb hd hl.has hn rfl (fun arr' h' => h p e s m args below meth c H locs arr' F (hl.st1 rfl h'))
theorem E_astore_n {G : GT} {y : MI} {Z : ZT} {k n pc : Nat} {ls st : List Value} {M : HV} {i : Fin 4} {r : Nat} (hd : decode (iC y) pc = .ok (.astore_n i, 1)) (h : E G y Z k n (pc + 1) (s1 ls (i : Nat) (.ref r)) st M) (hn : (i : Nat) < iL y := by decide) : E G y Z k n pc ls (.ref r :: st) M := by
  intro p e s m args below meth c H locs arr F hl
  obtain ⟨hx, hb, -⟩ := id F
  exact lv_astore_n hx hb hd rfl hl.has hn rfl (fun arr' h' => h p e s m args below meth c H locs arr' F (hl.st1 rfl h'))
theorem E_iinc {G : GT} {y : MI} {Z : ZT} {k n pc : Nat} {ls st : List Value} {M : HV} {i : Nat} {a x : Int} (hd : decode (iC y) pc = .ok (.iinc i a, 3)) (hi : ls[i]? = some (vi x)) (h : E G y Z k n (pc + 3) (s1 ls i (vi (x + a))) st M) (hn : i < iL y := by decide) : E G y Z k n pc ls st M := by
  intro p e s m args below meth c H locs arr F hl
  obtain ⟨hx, hb, -⟩ := id F
  obtain ⟨q, hq⟩ := List.getElem?_of_mem (loL_mem (G := G) hi (by simp [vi]))
  exact lv_iinc hx hb hd hl.has hq (Int32.ofInt_add x a).symm hn rfl (fun arr' h' => h p e s m args below meth c H locs arr' F (hl.st1 rfl h'))
theorem E_iadd {G : GT} {y : MI} {Z : ZT} {k n pc : Nat} {ls st : List Value} {M : HV} {x z : Int} (hd : decode (iC y) pc = .ok (.iadd, 1)) (h : E G y Z k n (pc + 1) ls (vi (x + z) :: st) M) : E G y Z k n pc ls (vi z :: vi x :: st) M := by
  intro p e s m args below meth c H locs arr F hl
  obtain ⟨hx, hb, -⟩ := id F
  refine lv_iadd hx hb hd ?_
  rw [← Int32.ofInt_add]
  exact h p e s m args below meth c H locs arr F hl
theorem E_ladd {G : GT} {y : MI} {Z : ZT} {k n pc : Nat} {ls st : List Value} {M : HV} {x z : Int} (hd : decode (iC y) pc = .ok (.ladd, 1)) (h : E G y Z k n (pc + 1) ls (vl (x + z) :: st) M) : E G y Z k n pc ls (vl z :: vl x :: st) M := by
  intro p e s m args below meth c H locs arr F hl
  obtain ⟨hx, hb, -⟩ := id F
  refine lv_ladd hx hb hd ?_
  rw [← Int64.ofInt_add]
  exact h p e s m args below meth c H locs arr F hl
theorem E_isub {G : GT} {y : MI} {Z : ZT} {k n pc : Nat} {ls st : List Value} {M : HV} {x z : Int} (hd : decode (iC y) pc = .ok (.isub, 1)) (h : E G y Z k n (pc + 1) ls (vi (x - z) :: st) M) : E G y Z k n pc ls (vi z :: vi x :: st) M := by
  intro p e s m args below meth c H locs arr F hl
  obtain ⟨hx, hb, -⟩ := id F
  refine lv_isub hx hb hd ?_
  rw [← Int32.ofInt_sub]
  exact h p e s m args below meth c H locs arr F hl
theorem E_lsub {G : GT} {y : MI} {Z : ZT} {k n pc : Nat} {ls st : List Value} {M : HV} {x z : Int} (hd : decode (iC y) pc = .ok (.lsub, 1)) (h : E G y Z k n (pc + 1) ls (vl (x - z) :: st) M) : E G y Z k n pc ls (vl z :: vl x :: st) M := by
  intro p e s m args below meth c H locs arr F hl
  obtain ⟨hx, hb, -⟩ := id F
  refine lv_lsub hx hb hd ?_
  rw [← Int64.ofInt_sub]
  exact h p e s m args below meth c H locs arr F hl
theorem E_imul {G : GT} {y : MI} {Z : ZT} {k n pc : Nat} {ls st : List Value} {M : HV} {x z : Int} (hd : decode (iC y) pc = .ok (.imul, 1)) (h : E G y Z k n (pc + 1) ls (vi (x * z) :: st) M) : E G y Z k n pc ls (vi z :: vi x :: st) M := by
  intro p e s m args below meth c H locs arr F hl
  obtain ⟨hx, hb, -⟩ := id F
  refine lv_imul hx hb hd ?_
  rw [← Int32.ofInt_mul]
  exact h p e s m args below meth c H locs arr F hl
theorem E_lmul {G : GT} {y : MI} {Z : ZT} {k n pc : Nat} {ls st : List Value} {M : HV} {x z : Int} (hd : decode (iC y) pc = .ok (.lmul, 1)) (h : E G y Z k n (pc + 1) ls (vl (x * z) :: st) M) : E G y Z k n pc ls (vl z :: vl x :: st) M := by
  intro p e s m args below meth c H locs arr F hl
  obtain ⟨hx, hb, -⟩ := id F
  refine lv_lmul hx hb hd ?_
  rw [← Int64.ofInt_mul]
  exact h p e s m args below meth c H locs arr F hl
theorem E_idiv {G : GT} {y : MI} {Z : ZT} {k n pc : Nat} {ls st : List Value} {M : HV} {x z : Int} (hd : decode (iC y) pc = .ok (.idiv, 1)) (h : E G y Z k n (pc + 1) ls (vi (x.tdiv z) :: st) M) (hz0 : z ≠ 0 := by omega) (hrx : -2147483648 ≤ x ∧ x < 2147483648 := by omega) (hrz : -2147483648 ≤ z ∧ z < 2147483648 := by omega) : E G y Z k n pc ls (vi z :: vi x :: st) M := by
  intro p e s m args below meth c H locs arr F hl
  obtain ⟨hx, hb, -⟩ := id F
  refine lv_idiv hx hb hd (fun e0 => hz0 ((i_eq hrz (by omega)).mp e0)) ?_
  rw [i_div hrx hrz]
  exact h p e s m args below meth c H locs arr F hl
theorem E_irem {G : GT} {y : MI} {Z : ZT} {k n pc : Nat} {ls st : List Value} {M : HV} {x z : Int} (hd : decode (iC y) pc = .ok (.irem, 1)) (h : E G y Z k n (pc + 1) ls (vi (x.tmod z) :: st) M) (hz0 : z ≠ 0 := by omega) (hrx : -2147483648 ≤ x ∧ x < 2147483648 := by omega) (hrz : -2147483648 ≤ z ∧ z < 2147483648 := by omega) : E G y Z k n pc ls (vi z :: vi x :: st) M := by
  intro p e s m args below meth c H locs arr F hl
  obtain ⟨hx, hb, -⟩ := id F
  refine lv_irem hx hb hd (fun e0 => hz0 ((i_eq hrz (by omega)).mp e0)) ?_
  rw [i_rem hrx hrz]
  exact h p e s m args below meth c H locs arr F hl
theorem E_ineg {G : GT} {y : MI} {Z : ZT} {k n pc : Nat} {ls st : List Value} {M : HV} {x : Int} (hd : decode (iC y) pc = .ok (.ineg, 1)) (h : E G y Z k n (pc + 1) ls (vi (-x) :: st) M) : E G y Z k n pc ls (vi x :: st) M := by
  intro p e s m args below meth c H locs arr F hl
  obtain ⟨hx, hb, -⟩ := id F
  refine lv_ineg hx hb hd ?_
  rw [← Int32.ofInt_neg]
  exact h p e s m args below meth c H locs arr F hl
theorem E_ldiv {G : GT} {y : MI} {Z : ZT} {k n pc : Nat} {ls st : List Value} {M : HV} {x z : Int} (hd : decode (iC y) pc = .ok (.ldiv, 1)) (h : E G y Z k n (pc + 1) ls (vl (x.tdiv z) :: st) M) (hz0 : z ≠ 0 := by omega) (hrx : -9223372036854775808 ≤ x ∧ x < 9223372036854775808 := by omega) (hrz : -9223372036854775808 ≤ z ∧ z < 9223372036854775808 := by omega) : E G y Z k n pc ls (vl z :: vl x :: st) M := by
  intro p e s m args below meth c H locs arr F hl
  obtain ⟨hx, hb, -⟩ := id F
  refine lv_ldiv hx hb hd (fun e0 => hz0 ((l_eq hrz (by omega)).mp e0)) ?_
  rw [l_div hrx hrz]
  exact h p e s m args below meth c H locs arr F hl
theorem E_lrem {G : GT} {y : MI} {Z : ZT} {k n pc : Nat} {ls st : List Value} {M : HV} {x z : Int} (hd : decode (iC y) pc = .ok (.lrem, 1)) (h : E G y Z k n (pc + 1) ls (vl (x.tmod z) :: st) M) (hz0 : z ≠ 0 := by omega) (hrx : -9223372036854775808 ≤ x ∧ x < 9223372036854775808 := by omega) (hrz : -9223372036854775808 ≤ z ∧ z < 9223372036854775808 := by omega) : E G y Z k n pc ls (vl z :: vl x :: st) M := by
  intro p e s m args below meth c H locs arr F hl
  obtain ⟨hx, hb, -⟩ := id F
  refine lv_lrem hx hb hd (fun e0 => hz0 ((l_eq hrz (by omega)).mp e0)) ?_
  rw [l_rem hrx hrz]
  exact h p e s m args below meth c H locs arr F hl
theorem E_lneg {G : GT} {y : MI} {Z : ZT} {k n pc : Nat} {ls st : List Value} {M : HV} {x : Int} (hd : decode (iC y) pc = .ok (.lneg, 1)) (h : E G y Z k n (pc + 1) ls (vl (-x) :: st) M) : E G y Z k n pc ls (vl x :: st) M := by
  intro p e s m args below meth c H locs arr F hl
  obtain ⟨hx, hb, -⟩ := id F
  refine lv_lneg hx hb hd ?_
  rw [← Int64.ofInt_neg]
  exact h p e s m args below meth c H locs arr F hl
theorem E_iand {G : GT} {y : MI} {Z : ZT} {k n pc : Nat} {ls st : List Value} {M : HV} {x z : Int} (u : Int) (hd : decode (iC y) pc = .ok (.iand, 1)) (hu : Int32.ofInt x &&& Int32.ofInt z = Int32.ofInt u) (h : E G y Z k n (pc + 1) ls (vi u :: st) M) : E G y Z k n pc ls (vi z :: vi x :: st) M := by
  intro p e s m args below meth c H locs arr F hl
  obtain ⟨hx, hb, -⟩ := id F
  refine lv_iand hx hb hd ?_
  rw [hu]
  exact h p e s m args below meth c H locs arr F hl
theorem E_ior {G : GT} {y : MI} {Z : ZT} {k n pc : Nat} {ls st : List Value} {M : HV} {x z : Int} (u : Int) (hd : decode (iC y) pc = .ok (.ior, 1)) (hu : Int32.ofInt x ||| Int32.ofInt z = Int32.ofInt u) (h : E G y Z k n (pc + 1) ls (vi u :: st) M) : E G y Z k n pc ls (vi z :: vi x :: st) M := by
  intro p e s m args below meth c H locs arr F hl
  obtain ⟨hx, hb, -⟩ := id F
  refine lv_ior hx hb hd ?_
  rw [hu]
  exact h p e s m args below meth c H locs arr F hl
theorem E_ixor {G : GT} {y : MI} {Z : ZT} {k n pc : Nat} {ls st : List Value} {M : HV} {x z : Int} (u : Int) (hd : decode (iC y) pc = .ok (.ixor, 1)) (hu : Int32.ofInt x ^^^ Int32.ofInt z = Int32.ofInt u) (h : E G y Z k n (pc + 1) ls (vi u :: st) M) : E G y Z k n pc ls (vi z :: vi x :: st) M := by
  intro p e s m args below meth c H locs arr F hl
  obtain ⟨hx, hb, -⟩ := id F
  refine lv_ixor hx hb hd ?_
  rw [hu]
  exact h p e s m args below meth c H locs arr F hl
theorem E_land {G : GT} {y : MI} {Z : ZT} {k n pc : Nat} {ls st : List Value} {M : HV} {x z : Int} (u : Int) (hd : decode (iC y) pc = .ok (.land, 1)) (hu : Int64.ofInt x &&& Int64.ofInt z = Int64.ofInt u) (h : E G y Z k n (pc + 1) ls (vl u :: st) M) : E G y Z k n pc ls (vl z :: vl x :: st) M := by
  intro p e s m args below meth c H locs arr F hl
  obtain ⟨hx, hb, -⟩ := id F
  refine lv_land hx hb hd ?_
  rw [hu]
  exact h p e s m args below meth c H locs arr F hl
theorem E_lor {G : GT} {y : MI} {Z : ZT} {k n pc : Nat} {ls st : List Value} {M : HV} {x z : Int} (u : Int) (hd : decode (iC y) pc = .ok (.lor, 1)) (hu : Int64.ofInt x ||| Int64.ofInt z = Int64.ofInt u) (h : E G y Z k n (pc + 1) ls (vl u :: st) M) : E G y Z k n pc ls (vl z :: vl x :: st) M := by
  intro p e s m args below meth c H locs arr F hl
  obtain ⟨hx, hb, -⟩ := id F
  refine lv_lor hx hb hd ?_
  rw [hu]
  exact h p e s m args below meth c H locs arr F hl
theorem E_lxor {G : GT} {y : MI} {Z : ZT} {k n pc : Nat} {ls st : List Value} {M : HV} {x z : Int} (u : Int) (hd : decode (iC y) pc = .ok (.lxor, 1)) (hu : Int64.ofInt x ^^^ Int64.ofInt z = Int64.ofInt u) (h : E G y Z k n (pc + 1) ls (vl u :: st) M) : E G y Z k n pc ls (vl z :: vl x :: st) M := by
  intro p e s m args below meth c H locs arr F hl
  obtain ⟨hx, hb, -⟩ := id F
  refine lv_lxor hx hb hd ?_
  rw [hu]
  exact h p e s m args below meth c H locs arr F hl
theorem E_ishl {G : GT} {y : MI} {Z : ZT} {k n pc : Nat} {ls st : List Value} {M : HV} {x z : Int} (u : Int) (hd : decode (iC y) pc = .ok (.ishl, 1)) (hu : Int32.ofInt x <<< (Int32.ofInt z &&& 31) = Int32.ofInt u) (h : E G y Z k n (pc + 1) ls (vi u :: st) M) : E G y Z k n pc ls (vi z :: vi x :: st) M := by
  intro p e s m args below meth c H locs arr F hl
  obtain ⟨hx, hb, -⟩ := id F
  refine lv_ishl hx hb hd ?_
  rw [hu]
  exact h p e s m args below meth c H locs arr F hl
theorem E_ishr {G : GT} {y : MI} {Z : ZT} {k n pc : Nat} {ls st : List Value} {M : HV} {x z : Int} (u : Int) (hd : decode (iC y) pc = .ok (.ishr, 1)) (hu : Int32.ofInt x >>> (Int32.ofInt z &&& 31) = Int32.ofInt u) (h : E G y Z k n (pc + 1) ls (vi u :: st) M) : E G y Z k n pc ls (vi z :: vi x :: st) M := by
  intro p e s m args below meth c H locs arr F hl
  obtain ⟨hx, hb, -⟩ := id F
  refine lv_ishr hx hb hd ?_
  rw [hu]
  exact h p e s m args below meth c H locs arr F hl
theorem E_iushr {G : GT} {y : MI} {Z : ZT} {k n pc : Nat} {ls st : List Value} {M : HV} {x z : Int} (u : Int) (hd : decode (iC y) pc = .ok (.iushr, 1)) (hu : ((Int32.ofInt x).toUInt32 >>> ((Int32.ofInt z).toUInt32 &&& Int32.toUInt32 31)).toInt32 = Int32.ofInt u) (h : E G y Z k n (pc + 1) ls (vi u :: st) M) : E G y Z k n pc ls (vi z :: vi x :: st) M := by
  intro p e s m args below meth c H locs arr F hl
  obtain ⟨hx, hb, -⟩ := id F
  exact lv_iushr hx hb hd hu (h p e s m args below meth c H locs arr F hl)
theorem E_lshl {G : GT} {y : MI} {Z : ZT} {k n pc : Nat} {ls st : List Value} {M : HV} {x z : Int} (u : Int) (hd : decode (iC y) pc = .ok (.lshl, 1)) (hu : Int64.ofInt x <<< ((Int32.ofInt z).toInt64 &&& 63) = Int64.ofInt u) (h : E G y Z k n (pc + 1) ls (vl u :: st) M) : E G y Z k n pc ls (vi z :: vl x :: st) M := by
  intro p e s m args below meth c H locs arr F hl
  obtain ⟨hx, hb, -⟩ := id F
  exact lv_lshl hx hb hd hu (h p e s m args below meth c H locs arr F hl)
theorem E_lshr {G : GT} {y : MI} {Z : ZT} {k n pc : Nat} {ls st : List Value} {M : HV} {x z : Int} (u : Int) (hd : decode (iC y) pc = .ok (.lshr, 1)) (hu : Int64.ofInt x >>> ((Int32.ofInt z).toInt64 &&& 63) = Int64.ofInt u) (h : E G y Z k n (pc + 1) ls (vl u :: st) M) : E G y Z k n pc ls (vi z :: vl x :: st) M := by
  intro p e s m args below meth c H locs arr F hl
  obtain ⟨hx, hb, -⟩ := id F
  exact lv_lshr hx hb hd hu (h p e s m args below meth c H locs arr F hl)
theorem E_lushr {G : GT} {y : MI} {Z : ZT} {k n pc : Nat} {ls st : List Value} {M : HV} {x z : Int} (u : Int) (hd : decode (iC y) pc = .ok (.lushr, 1)) (hu : ((Int64.ofInt x).toUInt64 >>> ((Int32.ofInt z).toInt64.toUInt64 &&& Int64.toUInt64 63)).toInt64 = Int64.ofInt u) (h : E G y Z k n (pc + 1) ls (vl u :: st) M) : E G y Z k n pc ls (vi z :: vl x :: st) M := by
  intro p e s m args below meth c H locs arr F hl
  obtain ⟨hx, hb, -⟩ := id F
  exact lv_lushr hx hb hd hu (h p e s m args below meth c H locs arr F hl)
theorem E_i2l {G : GT} {y : MI} {Z : ZT} {k n pc : Nat} {ls st : List Value} {M : HV} {x : Int} (hd : decode (iC y) pc = .ok (.i2l, 1)) (h : E G y Z k n (pc + 1) ls (vl x :: st) M) (hr : -2147483648 ≤ x ∧ x < 2147483648 := by omega) : E G y Z k n pc ls (vi x :: st) M := by
  intro p e s m args below meth c H locs arr F hl
  obtain ⟨hx, hb, -⟩ := id F
  exact lv_i2l hx hb hd (i2l_e hr) (h p e s m args below meth c H locs arr F hl)
theorem E_l2i {G : GT} {y : MI} {Z : ZT} {k n pc : Nat} {ls st : List Value} {M : HV} {x : Int} (hd : decode (iC y) pc = .ok (.l2i, 1)) (h : E G y Z k n (pc + 1) ls (vi x :: st) M) : E G y Z k n pc ls (vl x :: st) M := by
  intro p e s m args below meth c H locs arr F hl
  obtain ⟨hx, hb, -⟩ := id F
  exact lv_l2i hx hb hd (l2i_e x) (h p e s m args below meth c H locs arr F hl)
theorem E_dup {G : GT} {y : MI} {Z : ZT} {k n pc : Nat} {ls st : List Value} {M : HV} {v : Value} (hd : decode (iC y) pc = .ok (.dup, 1)) (h : E G y Z k n (pc + 1) ls (v :: v :: st) M) (hc : v.category = 1 := by rfl) : E G y Z k n pc ls (v :: st) M := by
  intro p e s m args below meth c H locs arr F hl
  obtain ⟨hx, hb, -⟩ := id F
  exact lv_dup hx hb hd (by rw [mv_cat]; exact hc) (h p e s m args below meth c H locs arr F hl)
theorem E_pop {G : GT} {y : MI} {Z : ZT} {k n pc : Nat} {ls st : List Value} {M : HV} {v : Value} (hd : decode (iC y) pc = .ok (.pop, 1)) (h : E G y Z k n (pc + 1) ls st M) (hc : v.category = 1 := by rfl) : E G y Z k n pc ls (v :: st) M := by
  intro p e s m args below meth c H locs arr F hl
  obtain ⟨hx, hb, -⟩ := id F
  exact lv_pop hx hb hd (by rw [mv_cat]; exact hc) (h p e s m args below meth c H locs arr F hl)
theorem E_dup2 {G : GT} {y : MI} {Z : ZT} {k n pc : Nat} {ls st : List Value} {M : HV} {v u : Value} (hd : decode (iC y) pc = .ok (.dup2, 1)) (h : E G y Z k n (pc + 1) ls (v :: u :: v :: u :: st) M) (hc : v.category = 1 := by rfl) (hc2 : u.category = 1 := by rfl) : E G y Z k n pc ls (v :: u :: st) M := by
  intro p e s m args below meth c H locs arr F hl
  obtain ⟨hx, hb, -⟩ := id F
  exact lv_dup2_11 hx hb hd (by rw [mv_cat]; exact hc) (by rw [mv_cat]; exact hc2) (h p e s m args below meth c H locs arr F hl)
theorem E_goto {G : GT} {y : MI} {Z : ZT} {k n pc : Nat} {ls st : List Value} {M : HV} {a : Int} (t : Nat) (hd : decode (iC y) pc = .ok (.goto a, 3)) (h : E G y Z k n t ls st M) (ht : (pc : Int) + a = (t : Int) := by decide) : E G y Z k n pc ls st M := by
  intro p e s m args below meth c H locs arr F hl
  obtain ⟨hx, hb, -⟩ := id F
  exact lv_goto hx hb hd ht (h p e s m args below meth c H locs arr F hl)
theorem E_icmp_eq {G : GT} {y : MI} {Z : ZT} {k n pc : Nat} {ls st : List Value} {M : HV} {x z a : Int} (t : Nat) (hd : decode (iC y) pc = .ok (.if_icmp .eq a, 3)) (kt : x = z → E G y Z k n t ls st M) (kf : x ≠ z → E G y Z k n (pc + 3) ls st M) (hrx : -2147483648 ≤ x ∧ x < 2147483648 := by omega) (hrz : -2147483648 ≤ z ∧ z < 2147483648 := by omega) (ht : (pc : Int) + a = (t : Int) := by decide) : E G y Z k n pc ls (vi z :: vi x :: st) M := by
  intro p e s m args below meth c H locs arr F hl
  obtain ⟨hx, hb, -⟩ := id F
  refine lv_icmp_eq hx hb hd ht (fun hc => ?_) (fun hc => ?_)
  · exact kt (by simp only [i_eq hrx hrz, i_eq hrz hrx, i_lt hrx hrz, i_lt hrz hrx, i_le hrx hrz, i_le hrz hrx] at hc; omega) p e s m args below meth c H locs arr F hl
  · exact kf (by simp only [i_eq hrx hrz, i_eq hrz hrx, i_lt hrx hrz, i_lt hrz hrx, i_le hrx hrz, i_le hrz hrx] at hc; omega) p e s m args below meth c H locs arr F hl
theorem E_if_eq {G : GT} {y : MI} {Z : ZT} {k n pc : Nat} {ls st : List Value} {M : HV} {x a : Int} (t : Nat) (hd : decode (iC y) pc = .ok (.ifCond .eq a, 3)) (kt : x = 0 → E G y Z k n t ls st M) (kf : x ≠ 0 → E G y Z k n (pc + 3) ls st M) (hrx : -2147483648 ≤ x ∧ x < 2147483648 := by omega) (ht : (pc : Int) + a = (t : Int) := by decide) : E G y Z k n pc ls (vi x :: st) M := by
  intro p e s m args below meth c H locs arr F hl
  obtain ⟨hx, hb, -⟩ := id F
  have hrz : -2147483648 ≤ (0 : Int) ∧ (0 : Int) < 2147483648 := by decide
  refine lv_if_eq hx hb hd ht (fun hc => ?_) (fun hc => ?_)
  · exact kt (by rw [← i_0] at hc; simp only [i_eq hrx hrz, i_eq hrz hrx, i_lt hrx hrz, i_lt hrz hrx, i_le hrx hrz, i_le hrz hrx] at hc; omega) p e s m args below meth c H locs arr F hl
  · exact kf (by rw [← i_0] at hc; simp only [i_eq hrx hrz, i_eq hrz hrx, i_lt hrx hrz, i_lt hrz hrx, i_le hrx hrz, i_le hrz hrx] at hc; omega) p e s m args below meth c H locs arr F hl
theorem E_icmp_ne {G : GT} {y : MI} {Z : ZT} {k n pc : Nat} {ls st : List Value} {M : HV} {x z a : Int} (t : Nat) (hd : decode (iC y) pc = .ok (.if_icmp .ne a, 3)) (kt : x ≠ z → E G y Z k n t ls st M) (kf : x = z → E G y Z k n (pc + 3) ls st M) (hrx : -2147483648 ≤ x ∧ x < 2147483648 := by omega) (hrz : -2147483648 ≤ z ∧ z < 2147483648 := by omega) (ht : (pc : Int) + a = (t : Int) := by decide) : E G y Z k n pc ls (vi z :: vi x :: st) M := by
  intro p e s m args below meth c H locs arr F hl
  obtain ⟨hx, hb, -⟩ := id F
  refine lv_icmp_ne hx hb hd ht (fun hc => ?_) (fun hc => ?_)
  · exact kt (by simp only [i_eq hrx hrz, i_eq hrz hrx, i_lt hrx hrz, i_lt hrz hrx, i_le hrx hrz, i_le hrz hrx] at hc; omega) p e s m args below meth c H locs arr F hl
  · exact kf (by simp only [i_eq hrx hrz, i_eq hrz hrx, i_lt hrx hrz, i_lt hrz hrx, i_le hrx hrz, i_le hrz hrx] at hc; omega) p e s m args below meth c H locs arr F hl
theorem E_if_ne {G : GT} {y : MI} {Z : ZT} {k n pc : Nat} {ls st : List Value} {M : HV} {x a : Int} (t : Nat) (hd : decode (iC y) pc = .ok (.ifCond .ne a, 3)) (kt : x ≠ 0 → E G y Z k n t ls st M) (kf : x = 0 → E G y Z k n (pc + 3) ls st M) (hrx : -2147483648 ≤ x ∧ x < 2147483648 := by omega) (ht : (pc : Int) + a = (t : Int) := by decide) : E G y Z k n pc ls (vi x :: st) M := by
  intro p e s m args below meth c H locs arr F hl
  obtain ⟨hx, hb, -⟩ := id F
  have hrz : -2147483648 ≤ (0 : Int) ∧ (0 : Int) < 2147483648 := by decide
  refine lv_if_ne hx hb hd ht (fun hc => ?_) (fun hc => ?_)
  · exact kt (by rw [← i_0] at hc; simp only [i_eq hrx hrz, i_eq hrz hrx, i_lt hrx hrz, i_lt hrz hrx, i_le hrx hrz, i_le hrz hrx] at hc; omega) p e s m args below meth c H locs arr F hl
  · exact kf (by rw [← i_0] at hc; simp only [i_eq hrx hrz, i_eq hrz hrx, i_lt hrx hrz, i_lt hrz hrx, i_le hrx hrz, i_le hrz hrx] at hc; omega) p e s m args below meth c H locs arr F hl
theorem E_icmp_lt {G : GT} {y : MI} {Z : ZT} {k n pc : Nat} {ls st : List Value} {M : HV} {x z a : Int} (t : Nat) (hd : decode (iC y) pc = .ok (.if_icmp .lt a, 3)) (kt : x < z → E G y Z k n t ls st M) (kf : z ≤ x → E G y Z k n (pc + 3) ls st M) (hrx : -2147483648 ≤ x ∧ x < 2147483648 := by omega) (hrz : -2147483648 ≤ z ∧ z < 2147483648 := by omega) (ht : (pc : Int) + a = (t : Int) := by decide) : E G y Z k n pc ls (vi z :: vi x :: st) M := by
  intro p e s m args below meth c H locs arr F hl
  obtain ⟨hx, hb, -⟩ := id F
  refine lv_icmp_lt hx hb hd ht (fun hc => ?_) (fun hc => ?_)
  · exact kt (by simp only [i_eq hrx hrz, i_eq hrz hrx, i_lt hrx hrz, i_lt hrz hrx, i_le hrx hrz, i_le hrz hrx] at hc; omega) p e s m args below meth c H locs arr F hl
  · exact kf (by simp only [i_eq hrx hrz, i_eq hrz hrx, i_lt hrx hrz, i_lt hrz hrx, i_le hrx hrz, i_le hrz hrx] at hc; omega) p e s m args below meth c H locs arr F hl
theorem E_if_lt {G : GT} {y : MI} {Z : ZT} {k n pc : Nat} {ls st : List Value} {M : HV} {x a : Int} (t : Nat) (hd : decode (iC y) pc = .ok (.ifCond .lt a, 3)) (kt : x < 0 → E G y Z k n t ls st M) (kf : 0 ≤ x → E G y Z k n (pc + 3) ls st M) (hrx : -2147483648 ≤ x ∧ x < 2147483648 := by omega) (ht : (pc : Int) + a = (t : Int) := by decide) : E G y Z k n pc ls (vi x :: st) M := by
  intro p e s m args below meth c H locs arr F hl
  obtain ⟨hx, hb, -⟩ := id F
  have hrz : -2147483648 ≤ (0 : Int) ∧ (0 : Int) < 2147483648 := by decide
  refine lv_if_lt hx hb hd ht (fun hc => ?_) (fun hc => ?_)
  · exact kt (by rw [← i_0] at hc; simp only [i_eq hrx hrz, i_eq hrz hrx, i_lt hrx hrz, i_lt hrz hrx, i_le hrx hrz, i_le hrz hrx] at hc; omega) p e s m args below meth c H locs arr F hl
  · exact kf (by rw [← i_0] at hc; simp only [i_eq hrx hrz, i_eq hrz hrx, i_lt hrx hrz, i_lt hrz hrx, i_le hrx hrz, i_le hrz hrx] at hc; omega) p e s m args below meth c H locs arr F hl
theorem E_icmp_ge {G : GT} {y : MI} {Z : ZT} {k n pc : Nat} {ls st : List Value} {M : HV} {x z a : Int} (t : Nat) (hd : decode (iC y) pc = .ok (.if_icmp .ge a, 3)) (kt : z ≤ x → E G y Z k n t ls st M) (kf : x < z → E G y Z k n (pc + 3) ls st M) (hrx : -2147483648 ≤ x ∧ x < 2147483648 := by omega) (hrz : -2147483648 ≤ z ∧ z < 2147483648 := by omega) (ht : (pc : Int) + a = (t : Int) := by decide) : E G y Z k n pc ls (vi z :: vi x :: st) M := by
  intro p e s m args below meth c H locs arr F hl
  obtain ⟨hx, hb, -⟩ := id F
  refine lv_icmp_ge hx hb hd ht (fun hc => ?_) (fun hc => ?_)
  · exact kt (by simp only [i_eq hrx hrz, i_eq hrz hrx, i_lt hrx hrz, i_lt hrz hrx, i_le hrx hrz, i_le hrz hrx] at hc; omega) p e s m args below meth c H locs arr F hl
  · exact kf (by simp only [i_eq hrx hrz, i_eq hrz hrx, i_lt hrx hrz, i_lt hrz hrx, i_le hrx hrz, i_le hrz hrx] at hc; omega) p e s m args below meth c H locs arr F hl
theorem E_if_ge {G : GT} {y : MI} {Z : ZT} {k n pc : Nat} {ls st : List Value} {M : HV} {x a : Int} (t : Nat) (hd : decode (iC y) pc = .ok (.ifCond .ge a, 3)) (kt : 0 ≤ x → E G y Z k n t ls st M) (kf : x < 0 → E G y Z k n (pc + 3) ls st M) (hrx : -2147483648 ≤ x ∧ x < 2147483648 := by omega) (ht : (pc : Int) + a = (t : Int) := by decide) : E G y Z k n pc ls (vi x :: st) M := by
  intro p e s m args below meth c H locs arr F hl
  obtain ⟨hx, hb, -⟩ := id F
  have hrz : -2147483648 ≤ (0 : Int) ∧ (0 : Int) < 2147483648 := by decide
  refine lv_if_ge hx hb hd ht (fun hc => ?_) (fun hc => ?_)
  · exact kt (by rw [← i_0] at hc; simp only [i_eq hrx hrz, i_eq hrz hrx, i_lt hrx hrz, i_lt hrz hrx, i_le hrx hrz, i_le hrz hrx] at hc; omega) p e s m args below meth c H locs arr F hl
  · exact kf (by rw [← i_0] at hc; simp only [i_eq hrx hrz, i_eq hrz hrx, i_lt hrx hrz, i_lt hrz hrx, i_le hrx hrz, i_le hrz hrx] at hc; omega) p e s m args below meth c H locs arr F hl
theorem E_icmp_gt {G : GT} {y : MI} {Z : ZT} {k n pc : Nat} {ls st : List Value} {M : HV} {x z a : Int} (t : Nat) (hd : decode (iC y) pc = .ok (.if_icmp .gt a, 3)) (kt : z < x → E G y Z k n t ls st M) (kf : x ≤ z → E G y Z k n (pc + 3) ls st M) (hrx : -2147483648 ≤ x ∧ x < 2147483648 := by omega) (hrz : -2147483648 ≤ z ∧ z < 2147483648 := by omega) (ht : (pc : Int) + a = (t : Int) := by decide) : E G y Z k n pc ls (vi z :: vi x :: st) M := by
  intro p e s m args below meth c H locs arr F hl
  obtain ⟨hx, hb, -⟩ := id F
  refine lv_icmp_gt hx hb hd ht (fun hc => ?_) (fun hc => ?_)
  · exact kt (by simp only [i_eq hrx hrz, i_eq hrz hrx, i_lt hrx hrz, i_lt hrz hrx, i_le hrx hrz, i_le hrz hrx] at hc; omega) p e s m args below meth c H locs arr F hl
  · exact kf (by simp only [i_eq hrx hrz, i_eq hrz hrx, i_lt hrx hrz, i_lt hrz hrx, i_le hrx hrz, i_le hrz hrx] at hc; omega) p e s m args below meth c H locs arr F hl
theorem E_if_gt {G : GT} {y : MI} {Z : ZT} {k n pc : Nat} {ls st : List Value} {M : HV} {x a : Int} (t : Nat) (hd : decode (iC y) pc = .ok (.ifCond .gt a, 3)) (kt : 0 < x → E G y Z k n t ls st M) (kf : x ≤ 0 → E G y Z k n (pc + 3) ls st M) (hrx : -2147483648 ≤ x ∧ x < 2147483648 := by omega) (ht : (pc : Int) + a = (t : Int) := by decide) : E G y Z k n pc ls (vi x :: st) M := by
  intro p e s m args below meth c H locs arr F hl
  obtain ⟨hx, hb, -⟩ := id F
  have hrz : -2147483648 ≤ (0 : Int) ∧ (0 : Int) < 2147483648 := by decide
  refine lv_if_gt hx hb hd ht (fun hc => ?_) (fun hc => ?_)
  · exact kt (by rw [← i_0] at hc; simp only [i_eq hrx hrz, i_eq hrz hrx, i_lt hrx hrz, i_lt hrz hrx, i_le hrx hrz, i_le hrz hrx] at hc; omega) p e s m args below meth c H locs arr F hl
  · exact kf (by rw [← i_0] at hc; simp only [i_eq hrx hrz, i_eq hrz hrx, i_lt hrx hrz, i_lt hrz hrx, i_le hrx hrz, i_le hrz hrx] at hc; omega) p e s m args below meth c H locs arr F hl
theorem E_icmp_le {G : GT} {y : MI} {Z : ZT} {k n pc : Nat} {ls st : List Value} {M : HV} {x z a : Int} (t : Nat) (hd : decode (iC y) pc = .ok (.if_icmp .le a, 3)) (kt : x ≤ z → E G y Z k n t ls st M) (kf : z < x → E G y Z k n (pc + 3) ls st M) (hrx : -2147483648 ≤ x ∧ x < 2147483648 := by omega) (hrz : -2147483648 ≤ z ∧ z < 2147483648 := by omega) (ht : (pc : Int) + a = (t : Int) := by decide) : E G y Z k n pc ls (vi z :: vi x :: st) M := by
  intro p e s m args below meth c H locs arr F hl
  obtain ⟨hx, hb, -⟩ := id F
  refine lv_icmp_le hx hb hd ht (fun hc => ?_) (fun hc => ?_)
  · exact kt (by simp only [i_eq hrx hrz, i_eq hrz hrx, i_lt hrx hrz, i_lt hrz hrx, i_le hrx hrz, i_le hrz hrx] at hc; omega) p e s m args below meth c H locs arr F hl
  · exact kf (by simp only [i_eq hrx hrz, i_eq hrz hrx, i_lt hrx hrz, i_lt hrz hrx, i_le hrx hrz, i_le hrz hrx] at hc; omega) p e s m args below meth c H locs arr F hl
theorem E_if_le {G : GT} {y : MI} {Z : ZT} {k n pc : Nat} {ls st : List Value} {M : HV} {x a : Int} (t : Nat) (hd : decode (iC y) pc = .ok (.ifCond .le a, 3)) (kt : x ≤ 0 → E G y Z k n t ls st M) (kf : 0 < x → E G y Z k n (pc + 3) ls st M) (hrx : -2147483648 ≤ x ∧ x < 2147483648 := by omega) (ht : (pc : Int) + a = (t : Int) := by decide) : E G y Z k n pc ls (vi x :: st) M := by
  intro p e s m args below meth c H locs arr F hl
  obtain ⟨hx, hb, -⟩ := id F
  have hrz : -2147483648 ≤ (0 : Int) ∧ (0 : Int) < 2147483648 := by decide
  refine lv_if_le hx hb hd ht (fun hc => ?_) (fun hc => ?_)
  · exact kt (by rw [← i_0] at hc; simp only [i_eq hrx hrz, i_eq hrz hrx, i_lt hrx hrz, i_lt hrz hrx, i_le hrx hrz, i_le hrz hrx] at hc; omega) p e s m args below meth c H locs arr F hl
  · exact kf (by rw [← i_0] at hc; simp only [i_eq hrx hrz, i_eq hrz hrx, i_lt hrx hrz, i_lt hrz hrx, i_le hrx hrz, i_le hrz hrx] at hc; omega) p e s m args below meth c H locs arr F hl
theorem cmp_e {x z : Int} (hx : -9223372036854775808 ≤ x ∧ x < 9223372036854775808) (hz : -9223372036854775808 ≤ z ∧ z < 9223372036854775808) : lg_cmp (Int64.ofInt x) (Int64.ofInt z) = Int32.ofInt (if x < z then -1 else if x = z then 0 else 1) := by
  unfold lg_cmp
  by_cases h : x < z
  · rw [if_neg (fun q : Int64.ofInt x > Int64.ofInt z => absurd ((l_lt hz hx).mp q) (by omega)), if_neg (fun q => absurd ((l_eq hx hz).mp q) (by omega)), if_pos h]; rfl
  · by_cases h2 : x = z
    · subst h2
      rw [if_neg (fun q : Int64.ofInt x > Int64.ofInt x => absurd ((l_lt hz hx).mp q) (by omega)), if_pos rfl, if_neg h, if_pos rfl]; rfl
    · rw [if_pos (show Int64.ofInt x > Int64.ofInt z from (l_lt hz hx).mpr (by omega)), if_neg h, if_neg h2]; rfl
theorem E_lcmp_eq {G : GT} {y : MI} {Z : ZT} {k n pc : Nat} {ls st : List Value} {M : HV} {x z a : Int} (t : Nat) (hd : decode (iC y) pc = .ok (.lcmp, 1)) (hd2 : decode (iC y) (pc + 1) = .ok (.ifCond .eq a, 3)) (kt : x = z → E G y Z k n t ls st M) (kf : x ≠ z → E G y Z k n (pc + 4) ls st M) (hrx : -9223372036854775808 ≤ x ∧ x < 9223372036854775808 := by omega) (hrz : -9223372036854775808 ≤ z ∧ z < 9223372036854775808 := by omega) (ht : ((pc + 1 : Nat) : Int) + a = (t : Int) := by decide) : E G y Z k n pc ls (vl z :: vl x :: st) M := by
  intro p e s m args below meth c H locs arr F hl
  obtain ⟨hx, hb, -⟩ := id F
  refine W.lcmp hx hb hd ?_
  rw [cmp_e hrx hrz]
  exact E_if_eq (x := if x < z then -1 else if x = z then 0 else 1) t hd2 (fun hc => kt (by split at hc <;> (try split at hc) <;> omega)) (fun hc => kf (by split at hc <;> (try split at hc) <;> omega)) (by split <;> (try split) <;> omega) ht p e s m args below meth c H locs arr F hl
theorem E_lcmp_ne {G : GT} {y : MI} {Z : ZT} {k n pc : Nat} {ls st : List Value} {M : HV} {x z a : Int} (t : Nat) (hd : decode (iC y) pc = .ok (.lcmp, 1)) (hd2 : decode (iC y) (pc + 1) = .ok (.ifCond .ne a, 3)) (kt : x ≠ z → E G y Z k n t ls st M) (kf : x = z → E G y Z k n (pc + 4) ls st M) (hrx : -9223372036854775808 ≤ x ∧ x < 9223372036854775808 := by omega) (hrz : -9223372036854775808 ≤ z ∧ z < 9223372036854775808 := by omega) (ht : ((pc + 1 : Nat) : Int) + a = (t : Int) := by decide) : E G y Z k n pc ls (vl z :: vl x :: st) M := by
  intro p e s m args below meth c H locs arr F hl
  obtain ⟨hx, hb, -⟩ := id F
  refine W.lcmp hx hb hd ?_
  rw [cmp_e hrx hrz]
  exact E_if_ne (x := if x < z then -1 else if x = z then 0 else 1) t hd2 (fun hc => kt (by split at hc <;> (try split at hc) <;> omega)) (fun hc => kf (by split at hc <;> (try split at hc) <;> omega)) (by split <;> (try split) <;> omega) ht p e s m args below meth c H locs arr F hl
theorem E_lcmp_lt {G : GT} {y : MI} {Z : ZT} {k n pc : Nat} {ls st : List Value} {M : HV} {x z a : Int} (t : Nat) (hd : decode (iC y) pc = .ok (.lcmp, 1)) (hd2 : decode (iC y) (pc + 1) = .ok (.ifCond .lt a, 3)) (kt : x < z → E G y Z k n t ls st M) (kf : z ≤ x → E G y Z k n (pc + 4) ls st M) (hrx : -9223372036854775808 ≤ x ∧ x < 9223372036854775808 := by omega) (hrz : -9223372036854775808 ≤ z ∧ z < 9223372036854775808 := by omega) (ht : ((pc + 1 : Nat) : Int) + a = (t : Int) := by decide) : E G y Z k n pc ls (vl z :: vl x :: st) M := by
  intro p e s m args below meth c H locs arr F hl
  obtain ⟨hx, hb, -⟩ := id F
  refine W.lcmp hx hb hd ?_
  rw [cmp_e hrx hrz]
  exact E_if_lt (x := if x < z then -1 else if x = z then 0 else 1) t hd2 (fun hc => kt (by split at hc <;> (try split at hc) <;> omega)) (fun hc => kf (by split at hc <;> (try split at hc) <;> omega)) (by split <;> (try split) <;> omega) ht p e s m args below meth c H locs arr F hl
theorem E_lcmp_ge {G : GT} {y : MI} {Z : ZT} {k n pc : Nat} {ls st : List Value} {M : HV} {x z a : Int} (t : Nat) (hd : decode (iC y) pc = .ok (.lcmp, 1)) (hd2 : decode (iC y) (pc + 1) = .ok (.ifCond .ge a, 3)) (kt : z ≤ x → E G y Z k n t ls st M) (kf : x < z → E G y Z k n (pc + 4) ls st M) (hrx : -9223372036854775808 ≤ x ∧ x < 9223372036854775808 := by omega) (hrz : -9223372036854775808 ≤ z ∧ z < 9223372036854775808 := by omega) (ht : ((pc + 1 : Nat) : Int) + a = (t : Int) := by decide) : E G y Z k n pc ls (vl z :: vl x :: st) M := by
  intro p e s m args below meth c H locs arr F hl
  obtain ⟨hx, hb, -⟩ := id F
  refine W.lcmp hx hb hd ?_
  rw [cmp_e hrx hrz]
  exact E_if_ge (x := if x < z then -1 else if x = z then 0 else 1) t hd2 (fun hc => kt (by split at hc <;> (try split at hc) <;> omega)) (fun hc => kf (by split at hc <;> (try split at hc) <;> omega)) (by split <;> (try split) <;> omega) ht p e s m args below meth c H locs arr F hl
theorem E_lcmp_gt {G : GT} {y : MI} {Z : ZT} {k n pc : Nat} {ls st : List Value} {M : HV} {x z a : Int} (t : Nat) (hd : decode (iC y) pc = .ok (.lcmp, 1)) (hd2 : decode (iC y) (pc + 1) = .ok (.ifCond .gt a, 3)) (kt : z < x → E G y Z k n t ls st M) (kf : x ≤ z → E G y Z k n (pc + 4) ls st M) (hrx : -9223372036854775808 ≤ x ∧ x < 9223372036854775808 := by omega) (hrz : -9223372036854775808 ≤ z ∧ z < 9223372036854775808 := by omega) (ht : ((pc + 1 : Nat) : Int) + a = (t : Int) := by decide) : E G y Z k n pc ls (vl z :: vl x :: st) M := by
  intro p e s m args below meth c H locs arr F hl
  obtain ⟨hx, hb, -⟩ := id F
  refine W.lcmp hx hb hd ?_
  rw [cmp_e hrx hrz]
  exact E_if_gt (x := if x < z then -1 else if x = z then 0 else 1) t hd2 (fun hc => kt (by split at hc <;> (try split at hc) <;> omega)) (fun hc => kf (by split at hc <;> (try split at hc) <;> omega)) (by split <;> (try split) <;> omega) ht p e s m args below meth c H locs arr F hl
theorem E_lcmp_le {G : GT} {y : MI} {Z : ZT} {k n pc : Nat} {ls st : List Value} {M : HV} {x z a : Int} (t : Nat) (hd : decode (iC y) pc = .ok (.lcmp, 1)) (hd2 : decode (iC y) (pc + 1) = .ok (.ifCond .le a, 3)) (kt : x ≤ z → E G y Z k n t ls st M) (kf : z < x → E G y Z k n (pc + 4) ls st M) (hrx : -9223372036854775808 ≤ x ∧ x < 9223372036854775808 := by omega) (hrz : -9223372036854775808 ≤ z ∧ z < 9223372036854775808 := by omega) (ht : ((pc + 1 : Nat) : Int) + a = (t : Int) := by decide) : E G y Z k n pc ls (vl z :: vl x :: st) M := by
  intro p e s m args below meth c H locs arr F hl
  obtain ⟨hx, hb, -⟩ := id F
  refine W.lcmp hx hb hd ?_
  rw [cmp_e hrx hrz]
  exact E_if_le (x := if x < z then -1 else if x = z then 0 else 1) t hd2 (fun hc => kt (by split at hc <;> (try split at hc) <;> omega)) (fun hc => kf (by split at hc <;> (try split at hc) <;> omega)) (by split <;> (try split) <;> omega) ht p e s m args below meth c H locs arr F hl
