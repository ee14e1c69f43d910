/-! Math, Numbers: what they answer -/
theorem td_pos {x z : Int} (hx : 0 ≤ x) : x.tdiv z = x / z := Int.tdiv_eq_ediv_of_nonneg hx
theorem td_neg1 {x z : Int} (hz : 0 < z) (h : x.tdiv z * z = x) : x.tdiv z = x / z := by
  have h2 := Int.mul_ediv_cancel (x.tdiv z) (show z ≠ 0 by omega)
  rw [h] at h2
  exact h2.symm
theorem td_r {x z : Int} (hx : x < 0) (hz : 0 < z) : -z < x.tmod z ∧ x.tmod z ≤ 0 := by
  have h1 : x.tmod z = -((-x).tmod z) := by rw [Int.neg_tmod]; omega
  have h2 := Int.tmod_lt_of_pos (-x) hz
  have h3 := Int.tmod_nonneg z (show 0 ≤ -x by omega)
  omega
theorem td_neg2 {x z : Int} (hx : x < 0) (hz : 0 < z) (h : x.tdiv z * z ≠ x) : x.tdiv z - 1 = x / z := by
  have h1 := Int.tmod_def x z
  have h2 := td_r hx hz
  have e1 : z * x.tdiv z = x.tdiv z * z := Int.mul_comm _ _
  have e2 : z * (x.tdiv z - 1) = z * x.tdiv z - z := by rw [Int.mul_sub, Int.mul_one]
  have hu := (Int.ediv_emod_unique (a := x) (b := z) (r := x.tmod z + z) (q := x.tdiv z - 1) hz).mpr ⟨by omega, by omega, by omega⟩
  exact hu.1.symm
theorem tm_neg1 {x z : Int} (hz : 0 < z) (h : x.tmod z = 0) : x % z = 0 := by
  have h1 := Int.tmod_def x z
  have : x = z * x.tdiv z := by omega
  rw [this]; exact Int.mul_emod_right _ _
theorem tm_neg2 {x z : Int} (hx : x < 0) (hz : 0 < z) (h : x.tmod z ≠ 0) : x.tmod z + z = x % z := by
  have h1 := Int.tmod_def x z
  have h2 := td_r hx hz
  have e2 : z * (x.tdiv z - 1) = z * x.tdiv z - z := by rw [Int.mul_sub, Int.mul_one]
  have hu := (Int.ediv_emod_unique (a := x) (b := z) (r := x.tmod z + z) (q := x.tdiv z - 1) hz).mpr ⟨by omega, by omega, by omega⟩
  exact hu.2.symm
theorem xor_neg64 (a b : Int64) : (a ^^^ b).toInt < 0 ↔ ((a.toInt < 0) ↔ ¬ (b.toInt < 0)) := by
  have h : ∀ v : Int64, (v.toInt < 0) ↔ v.toBitVec.msb = true := by
    intro v
    rw [BitVec.msb_eq_toInt, decide_eq_true_iff]
    exact Iff.rfl
  rw [h, h, h, Int64.toBitVec_xor, BitVec.msb_xor]
  cases a.toBitVec.msb <;> cases b.toBitVec.msb <;> simp
theorem xor_neg32 (a b : Int32) : (a ^^^ b).toInt < 0 ↔ ((a.toInt < 0) ↔ ¬ (b.toInt < 0)) := by
  have h : ∀ v : Int32, (v.toInt < 0) ↔ v.toBitVec.msb = true := by
    intro v
    rw [BitVec.msb_eq_toInt, decide_eq_true_iff]
    exact Iff.rfl
  rw [h, h, h, Int32.toBitVec_xor, BitVec.msb_xor]
  cases a.toBitVec.msb <;> cases b.toBitVec.msb <;> simp
theorem xor_l {x z : Int} (hx : -9223372036854775808 ≤ x ∧ x < 9223372036854775808) (hz : 0 < z ∧ z < 9223372036854775808) : ((Int64.ofInt x ^^^ Int64.ofInt z).toInt < 0 ↔ x < 0) := by
  rw [xor_neg64, l_in hx, l_in (by omega)]
  omega
theorem xor_i {x z : Int} (hx : -2147483648 ≤ x ∧ x < 2147483648) (hz : 0 < z ∧ z < 2147483648) : ((Int32.ofInt x ^^^ Int32.ofInt z).toInt < 0 ↔ x < 0) := by
  rw [xor_neg32, i_in hx, i_in (by omega)]
  omega
theorem t64 (a : Int64) : -9223372036854775808 ≤ a.toInt ∧ a.toInt < 9223372036854775808 := ⟨by have := a.le_toInt; simpa using this, by have := a.toInt_lt; simpa using this⟩
theorem t32 (a : Int32) : -2147483648 ≤ a.toInt ∧ a.toInt < 2147483648 := ⟨by have := a.le_toInt; simpa using this, by have := a.toInt_lt; simpa using this⟩
section NUM
variable {G : GT} {M : HV}
theorem c_absl {x : Int} (hx : -9223372036854775808 < x ∧ x < 9223372036854775808) : Ctr G mJ9_abs_067f4 [vl x] M (R1 (vl (x.natAbs : Int)) M) := by
  refine Ctr.of ?_
  refine E_lload_n dJ9_abs_067f4_0 rfl ?_
  refine E_lconst0 dJ9_abs_067f4_1 ?_
  refine E_lcmp_ge 11 dJ9_abs_067f4_2 dJ9_abs_067f4_3 (fun h2 => ?_) (fun h2 => ?_)
  · -- 11
    refine E_lload_n dJ9_abs_067f4_11 rfl ?_
    refine E_lret dJ9_abs_067f4_12 ?_
    refine ⟨?_, rfl⟩
    congr 2
    omega
  · -- 6
    refine E_lload_n dJ9_abs_067f4_6 rfl ?_
    refine E_lneg dJ9_abs_067f4_7 ?_
    refine E_goto 12 dJ9_abs_067f4_8 ?_
    refine E_lret dJ9_abs_067f4_12 ?_
    refine ⟨?_, rfl⟩
    congr 2
    omega
theorem c_absi {x : Int} (hx : -2147483648 < x ∧ x < 2147483648) : Ctr G mJ9_abs_0f7a4 [vi x] M (R1 (vi (x.natAbs : Int)) M) := by
  refine Ctr.of ?_
  refine E_iload_n dJ9_abs_0f7a4_0 rfl ?_
  refine E_if_ge 9 dJ9_abs_0f7a4_1 (fun h1 => ?_) (fun h1 => ?_)
  · -- 9
    refine E_iload_n dJ9_abs_0f7a4_9 rfl ?_
    refine E_iret dJ9_abs_0f7a4_10 ?_
    refine ⟨?_, rfl⟩
    congr 2
    omega
  · -- 4
    refine E_iload_n dJ9_abs_0f7a4_4 rfl ?_
    refine E_ineg dJ9_abs_0f7a4_5 ?_
    refine E_goto 10 dJ9_abs_0f7a4_6 ?_
    refine E_iret dJ9_abs_0f7a4_10 ?_
    refine ⟨?_, rfl⟩
    congr 2
    omega
theorem c_max {x z : Int} (hx : -2147483648 ≤ x ∧ x < 2147483648) (hz : -2147483648 ≤ z ∧ z < 2147483648) : Ctr G mJ9_max_7cf53 [vi x, vi z] M (R1 (vi (max x z)) M) := by
  refine Ctr.of ?_
  refine E_iload_n dJ9_max_7cf53_0 rfl ?_
  refine E_iload_n dJ9_max_7cf53_1 rfl ?_
  refine E_icmp_lt 9 dJ9_max_7cf53_2 (fun h2 => ?_) (fun h2 => ?_)
  · -- 9
    refine E_iload_n dJ9_max_7cf53_9 rfl ?_
    refine E_iret dJ9_max_7cf53_10 ?_
    refine ⟨?_, rfl⟩
    congr 2
    omega
  · -- 5
    refine E_iload_n dJ9_max_7cf53_5 rfl ?_
    refine E_goto 10 dJ9_max_7cf53_6 ?_
    refine E_iret dJ9_max_7cf53_10 ?_
    refine ⟨?_, rfl⟩
    congr 2
    omega
theorem c_min {x z : Int} (hx : -2147483648 ≤ x ∧ x < 2147483648) (hz : -2147483648 ≤ z ∧ z < 2147483648) : Ctr G mJ9_min_7cf53 [vi x, vi z] M (R1 (vi (min x z)) M) := by
  refine Ctr.of ?_
  refine E_iload_n dJ9_min_7cf53_0 rfl ?_
  refine E_iload_n dJ9_min_7cf53_1 rfl ?_
  refine E_icmp_gt 9 dJ9_min_7cf53_2 (fun h2 => ?_) (fun h2 => ?_)
  · -- 9
    refine E_iload_n dJ9_min_7cf53_9 rfl ?_
    refine E_iret dJ9_min_7cf53_10 ?_
    refine ⟨?_, rfl⟩
    congr 2
    omega
  · -- 5
    refine E_iload_n dJ9_min_7cf53_5 rfl ?_
    refine E_goto 10 dJ9_min_7cf53_6 ?_
    refine E_iret dJ9_min_7cf53_10 ?_
    refine ⟨?_, rfl⟩
    congr 2
    omega
theorem c_minl {x z : Int} (hx : -9223372036854775808 ≤ x ∧ x < 9223372036854775808) (hz : -9223372036854775808 ≤ z ∧ z < 9223372036854775808) : Ctr G mJ9_min_f86c9 [vl x, vl z] M (R1 (vl (min x z)) M) := by
  refine Ctr.of ?_
  refine E_lload_n dJ9_min_f86c9_0 rfl ?_
  refine E_lload_n dJ9_min_f86c9_1 rfl ?_
  refine E_lcmp_gt 10 dJ9_min_f86c9_2 dJ9_min_f86c9_3 (fun h2 => ?_) (fun h2 => ?_)
  · -- 10
    refine E_lload_n dJ9_min_f86c9_10 rfl ?_
    refine E_lret dJ9_min_f86c9_11 ?_
    refine ⟨?_, rfl⟩
    congr 2
    omega
  · -- 6
    refine E_lload_n dJ9_min_f86c9_6 rfl ?_
    refine E_goto 11 dJ9_min_f86c9_7 ?_
    refine E_lret dJ9_min_f86c9_11 ?_
    refine ⟨?_, rfl⟩
    congr 2
    omega
set_option maxRecDepth 4000 in
theorem c_floorDiv {x z : Int} (hx : -4611686018427387904 ≤ x ∧ x < 4611686018427387904) (hz : 0 < z ∧ z < 4611686018427387904) : Ctr G mJ9_floorDiv_f86c9 [vl x, vl z] M (R1 (vl (x / z)) M) := by
  refine Ctr.of ?_
  have h1 := t64 (Int64.ofInt x ^^^ Int64.ofInt z)
  have h2 := xor_l (x := x) (z := z) (by omega) (by omega)
  have h3 := Int.tmod_def x z
  have h4 : x < 0 → -z < x.tmod z ∧ x.tmod z ≤ 0 := fun h => td_r h hz.1
  have h5 : 0 ≤ x → 0 ≤ x.tmod z ∧ x.tmod z < z := fun h => ⟨Int.tmod_nonneg z h, Int.tmod_lt_of_pos x hz.1⟩
  have e1 : z * x.tdiv z = x.tdiv z * z := Int.mul_comm _ _
  have h6 : x.tdiv z * z ≤ 4611686018427387904 * 2 - 1 ∧ -4611686018427387904 ≤ x.tdiv z * z := by omega
  refine E_lload_n dJ9_floorDiv_f86c9_0 rfl ?_
  refine E_lload_n dJ9_floorDiv_f86c9_1 rfl ?_
  refine E_ldiv dJ9_floorDiv_f86c9_2 ?_
  refine E_lstore dJ9_floorDiv_f86c9_3 ?_
  refine E_lload_n dJ9_floorDiv_f86c9_5 rfl ?_
  refine E_lload_n dJ9_floorDiv_f86c9_6 rfl ?_
  refine E_lxor ((Int64.ofInt x ^^^ Int64.ofInt z).toInt) dJ9_floorDiv_f86c9_7 (by rw [Int64.ofInt_toInt]) ?_
  refine E_lconst0 dJ9_floorDiv_f86c9_8 ?_
  refine E_lcmp_ge 27 dJ9_floorDiv_f86c9_9 dJ9_floorDiv_f86c9_10 (fun h9 => ?_) (fun h9 => ?_)
  · -- 27
    refine E_lload dJ9_floorDiv_f86c9_27 rfl ?_
    refine E_lret dJ9_floorDiv_f86c9_29 ?_
    refine ⟨?_, rfl⟩
    congr 2
    first | exact td_pos (by omega) | exact td_neg1 hz.1 (by omega) | exact td_neg2 (by omega) hz.1 (by omega)
  · -- 13
    refine E_lload dJ9_floorDiv_f86c9_13 rfl ?_
    refine E_lload_n dJ9_floorDiv_f86c9_15 rfl ?_
    refine E_lmul dJ9_floorDiv_f86c9_16 ?_
    refine E_lload_n dJ9_floorDiv_f86c9_17 rfl ?_
    refine E_lcmp_eq 27 dJ9_floorDiv_f86c9_18 dJ9_floorDiv_f86c9_19 (fun h18 => ?_) (fun h18 => ?_)
    · -- 27
      refine E_lload dJ9_floorDiv_f86c9_27 rfl ?_
      refine E_lret dJ9_floorDiv_f86c9_29 ?_
      refine ⟨?_, rfl⟩
      congr 2
      first | exact td_pos (by omega) | exact td_neg1 hz.1 (by omega) | exact td_neg2 (by omega) hz.1 (by omega)
    · -- 22
      refine E_lload dJ9_floorDiv_f86c9_22 rfl ?_
      refine E_lconst1 dJ9_floorDiv_f86c9_24 ?_
      refine E_lsub dJ9_floorDiv_f86c9_25 ?_
      refine E_lret dJ9_floorDiv_f86c9_26 ?_
      refine ⟨?_, rfl⟩
      congr 2
      first | exact td_pos (by omega) | exact td_neg1 hz.1 (by omega) | exact td_neg2 (by omega) hz.1 (by omega)
theorem c_floorMod {x z : Int} (hx : -4611686018427387904 ≤ x ∧ x < 4611686018427387904) (hz : 0 < z ∧ z < 4611686018427387904) : Ctr G mJ9_floorMod_f86c9 [vl x, vl z] M (R1 (vl (x % z)) M) := by
  refine Ctr.of ?_
  have h1 := t64 (Int64.ofInt x ^^^ Int64.ofInt z)
  have h2 := xor_l (x := x) (z := z) (by omega) (by omega)
  have h4 : x < 0 → -z < x.tmod z ∧ x.tmod z ≤ 0 := fun h => td_r h hz.1
  have h5 : 0 ≤ x → 0 ≤ x.tmod z ∧ x.tmod z < z := fun h => ⟨Int.tmod_nonneg z h, Int.tmod_lt_of_pos x hz.1⟩
  refine E_lload_n dJ9_floorMod_f86c9_0 rfl ?_
  refine E_lload_n dJ9_floorMod_f86c9_1 rfl ?_
  refine E_lrem dJ9_floorMod_f86c9_2 ?_
  refine E_lstore dJ9_floorMod_f86c9_3 ?_
  refine E_lload_n dJ9_floorMod_f86c9_5 rfl ?_
  refine E_lload_n dJ9_floorMod_f86c9_6 rfl ?_
  refine E_lxor ((Int64.ofInt x ^^^ Int64.ofInt z).toInt) dJ9_floorMod_f86c9_7 (by rw [Int64.ofInt_toInt]) ?_
  refine E_lconst0 dJ9_floorMod_f86c9_8 ?_
  refine E_lcmp_ge 25 dJ9_floorMod_f86c9_9 dJ9_floorMod_f86c9_10 (fun h9 => ?_) (fun h9 => ?_)
  · -- 25
    refine E_lload dJ9_floorMod_f86c9_25 rfl ?_
    refine E_lret dJ9_floorMod_f86c9_27 ?_
    refine ⟨?_, rfl⟩
    congr 2
    first | exact Int.tmod_eq_emod_of_nonneg (by omega) | (rw [tm_neg1 hz.1 (by omega)]; omega) | exact tm_neg2 (by omega) hz.1 (by omega)
  · -- 13
    refine E_lload dJ9_floorMod_f86c9_13 rfl ?_
    refine E_lconst0 dJ9_floorMod_f86c9_15 ?_
    refine E_lcmp_eq 25 dJ9_floorMod_f86c9_16 dJ9_floorMod_f86c9_17 (fun h16 => ?_) (fun h16 => ?_)
    · -- 25
      refine E_lload dJ9_floorMod_f86c9_25 rfl ?_
      refine E_lret dJ9_floorMod_f86c9_27 ?_
      refine ⟨?_, rfl⟩
      congr 2
      first | exact Int.tmod_eq_emod_of_nonneg (by omega) | (rw [tm_neg1 hz.1 (by omega)]; omega) | exact tm_neg2 (by omega) hz.1 (by omega)
    · -- 20
      refine E_lload dJ9_floorMod_f86c9_20 rfl ?_
      refine E_lload_n dJ9_floorMod_f86c9_22 rfl ?_
      refine E_ladd dJ9_floorMod_f86c9_23 ?_
      refine E_lret dJ9_floorMod_f86c9_24 ?_
      refine ⟨?_, rfl⟩
      congr 2
      first | exact Int.tmod_eq_emod_of_nonneg (by omega) | (rw [tm_neg1 hz.1 (by omega)]; omega) | exact tm_neg2 (by omega) hz.1 (by omega)
theorem c_floorModi {x z : Int} (hx : -2147483648 ≤ x ∧ x < 2147483648) (hz : 0 < z ∧ z < 1073741824) : Ctr G mJ9_floorMod_7cf53 [vi x, vi z] M (R1 (vi (x % z)) M) := by
  refine Ctr.of ?_
  have h1 := t32 (Int32.ofInt x ^^^ Int32.ofInt z)
  have h2 := xor_i (x := x) (z := z) (by omega) (by omega)
  have h4 : x < 0 → -z < x.tmod z ∧ x.tmod z ≤ 0 := fun h => td_r h hz.1
  have h5 : 0 ≤ x → 0 ≤ x.tmod z ∧ x.tmod z < z := fun h => ⟨Int.tmod_nonneg z h, Int.tmod_lt_of_pos x hz.1⟩
  refine E_iload_n dJ9_floorMod_7cf53_0 rfl ?_
  refine E_iload_n dJ9_floorMod_7cf53_1 rfl ?_
  refine E_irem dJ9_floorMod_7cf53_2 ?_
  refine E_istore_n dJ9_floorMod_7cf53_3 ?_
  refine E_iload_n dJ9_floorMod_7cf53_4 rfl ?_
  refine E_iload_n dJ9_floorMod_7cf53_5 rfl ?_
  refine E_ixor ((Int32.ofInt x ^^^ Int32.ofInt z).toInt) dJ9_floorMod_7cf53_6 (by rw [Int32.ofInt_toInt]) ?_
  refine E_if_ge 18 dJ9_floorMod_7cf53_7 (fun h7 => ?_) (fun h7 => ?_)
  · -- 18
    refine E_iload_n dJ9_floorMod_7cf53_18 rfl ?_
    refine E_iret dJ9_floorMod_7cf53_19 ?_
    refine ⟨?_, rfl⟩
    congr 2
    first | exact Int.tmod_eq_emod_of_nonneg (by omega) | (rw [tm_neg1 hz.1 (by omega)]; omega) | exact tm_neg2 (by omega) hz.1 (by omega)
  · -- 10
    refine E_iload_n dJ9_floorMod_7cf53_10 rfl ?_
    refine E_if_eq 18 dJ9_floorMod_7cf53_11 (fun h11 => ?_) (fun h11 => ?_)
    · -- 18
      refine E_iload_n dJ9_floorMod_7cf53_18 rfl ?_
      refine E_iret dJ9_floorMod_7cf53_19 ?_
      refine ⟨?_, rfl⟩
      congr 2
      first | exact Int.tmod_eq_emod_of_nonneg (by omega) | (rw [tm_neg1 hz.1 (by omega)]; omega) | exact tm_neg2 (by omega) hz.1 (by omega)
    · -- 14
      refine E_iload_n dJ9_floorMod_7cf53_14 rfl ?_
      refine E_iload_n dJ9_floorMod_7cf53_15 rfl ?_
      refine E_iadd dJ9_floorMod_7cf53_16 ?_
      refine E_iret dJ9_floorMod_7cf53_17 ?_
      refine ⟨?_, rfl⟩
      congr 2
      first | exact Int.tmod_eq_emod_of_nonneg (by omega) | (rw [tm_neg1 hz.1 (by omega)]; omega) | exact tm_neg2 (by omega) hz.1 (by omega)
theorem c_quotient {x z : Int} (hx : -4611686018427387904 ≤ x ∧ x < 4611686018427387904) (hz : 0 ≤ z ∧ z < 4611686018427387904) : Ctr G mX4_quotient [vl x, vl z] M (R1 (vl (x / z)) M) := by
  refine Ctr.of ?_
  refine E_lload_n dX4_quotient_0 rfl ?_
  refine E_lconst0 dX4_quotient_1 ?_
  refine E_lcmp_ne 10 dX4_quotient_2 dX4_quotient_3 (fun h2 => ?_) (fun h2 => ?_)
  · -- 10
    refine E_lload_n dX4_quotient_10 rfl ?_
    refine E_lload_n dX4_quotient_11 rfl ?_
    refine E_callSR dX4_quotient_12 lkX4_15 (c_floorDiv (x := x) (z := z) hx (by omega)) ?_
    refine E_lret dX4_quotient_15 ?_
    refine ⟨?_, rfl⟩
    first | rfl | (have h0 : z = 0 := by omega); subst h0; simp
  · -- 6
    refine E_lconst0 dX4_quotient_6 ?_
    refine E_goto 15 dX4_quotient_7 ?_
    refine E_lret dX4_quotient_15 ?_
    refine ⟨?_, rfl⟩
    first | rfl | (have h0 : z = 0 := by omega); subst h0; simp
theorem c_modulo {x z : Int} (hx : -4611686018427387904 ≤ x ∧ x < 4611686018427387904) (hz : 0 < z ∧ z < 4611686018427387904) : Ctr G mX4_modulo [vl x, vl z] M (R1 (vl (x % z)) M) := by
  refine Ctr.of ?_
  refine E_lload_n dX4_modulo_0 rfl ?_
  refine E_lconst0 dX4_modulo_1 ?_
  refine E_lcmp_gt 10 dX4_modulo_2 dX4_modulo_3 (fun h2 => ?_) (fun h2 => ?_)
  · -- 10
    refine E_lload_n dX4_modulo_10 rfl ?_
    refine E_lload_n dX4_modulo_11 rfl ?_
    refine E_callSR dX4_modulo_12 lkX4_19 (c_floorMod (x := x) (z := z) hx (by omega)) ?_
    refine E_lret dX4_modulo_15 ?_
    refine ⟨?_, rfl⟩
    first | rfl | omega
  · -- 6
    refine E_lconst0 dX4_modulo_6 ?_
    refine E_goto 15 dX4_modulo_7 ?_
    refine E_lret dX4_modulo_15 ?_
    refine ⟨?_, rfl⟩
    first | rfl | omega

theorem gcd_em (b s : Int) : Int.gcd (b % s) s = Int.gcd b s := by
  have h := Int.gcd_add_mul_left_left s (b % s) (b / s)
  have e := Int.mul_ediv_add_emod b s
  rw [show b % s + s * (b / s) = b by omega] at h
  exact h.symm
theorem gcd_step {b s : Int} (hb : 0 ≤ b) (hs : 0 < s) : (Int.gcd s (b.tmod s) : Int) = Int.gcd b s := by
  rw [Int.tmod_eq_emod_of_nonneg hb, Int.gcd_comm, gcd_em]
theorem prod_step {b s : Int} {t : Nat} (hsb : s < b) (hs : 0 < s) (hp : b * s < 2 ^ (t + 1)) : s * (b.tmod s) < 2 ^ t ∧ 0 ≤ b.tmod s ∧ b.tmod s < s := by
  rw [Int.tmod_eq_emod_of_nonneg (by omega)]
  have h1 := Int.emod_nonneg b (show s ≠ 0 by omega)
  have h2 := Int.emod_lt_of_pos b hs
  have h3 := Int.mul_ediv_add_emod b s
  have h4 : 1 ≤ b / s := by
    have := Int.le_ediv_of_mul_le (a := 1) (b := b) hs (by omega)
    exact this
  have h5 : s * 1 ≤ s * (b / s) := Int.mul_le_mul_of_nonneg_left h4 (by omega)
  have h6 : s * (b % s + b % s) ≤ s * b := Int.mul_le_mul_of_nonneg_left (by omega) (by omega)
  have h7 : s * (b % s + b % s) = s * (b % s) + s * (b % s) := Int.mul_add _ _ _
  have h8 : (2 : Int) ^ (t + 1) = 2 * 2 ^ t := by rw [Int.pow_succ]; omega
  have h9 : b * s = s * b := Int.mul_comm _ _
  exact ⟨by omega, h1, h2⟩
theorem pow_pos2 (t : Nat) : (0 : Int) < 2 ^ t := Int.pow_pos (by decide)
theorem gcd_loop (g x z : Int) (hx : -4611686018427387904 ≤ x ∧ x ≤ 4611686018427387904) (hz : -4611686018427387904 ≤ z ∧ z ≤ 4611686018427387904) : ∀ (t : Nat) (b s c : Int) (r : Value), 0 ≤ s → s < b → b ≤ 4611686018427387904 → b * s < 2 ^ t → 0 ≤ c → c + t < 200 → (Int.gcd b s : Int) = g →
    E G mX4_gcd (Zq G mX4_gcd (R1 (vl g) M)) 0 0 15 [vl x, .retAddr 0, vl z, .retAddr 0, vl b, .retAddr 0, vl s, .retAddr 0, vi c, r, .retAddr 0] [] M := by
  intro t
  induction t with
  | zero =>
    intro b s c r h1 h2 h3 h4 h5 h6 h7
    have h8 : s = 0 := by
      rcases (show s = 0 ∨ 1 ≤ s by omega) with h | h
      · exact h
      · have := Int.mul_le_mul_of_nonneg_left h (show 0 ≤ b by omega)
        omega
    subst h8
    have h9 : g = b := by
      rw [← h7, Int.gcd_zero_right]
      omega
    refine E_iload dX4_gcd_15 rfl ?_
    refine E_sipush dX4_gcd_17 ?_
    refine E_icmp_ge 51 dX4_gcd_20 (fun h20 => ?_) (fun h20 => ?_)
    · -- 51
      refine E_lload dX4_gcd_51 rfl ?_
      refine E_lret dX4_gcd_53 ?_
      exact ⟨by rw [h9], rfl⟩
    · -- 23
      refine E_lload dX4_gcd_23 rfl ?_
      refine E_lconst0 dX4_gcd_25 ?_
      refine E_lcmp_eq 51 dX4_gcd_26 dX4_gcd_27 (fun h26 => ?_) (fun h26 => ?_)
      · -- 51
        refine E_lload dX4_gcd_51 rfl ?_
        refine E_lret dX4_gcd_53 ?_
        exact ⟨by rw [h9], rfl⟩
      · -- 30
        exact absurd rfl h26
  | succ t ih =>
    intro b s c r h1 h2 h3 h4 h5 h6 h7
    refine E_iload dX4_gcd_15 rfl ?_
    refine E_sipush dX4_gcd_17 ?_
    refine E_icmp_ge 51 dX4_gcd_20 (fun h20 => ?_) (fun h20 => ?_)
    · -- 51
      refine E_lload dX4_gcd_51 rfl ?_
      refine E_lret dX4_gcd_53 ?_
      first | (exfalso; omega) | exact ⟨by rw [← h7, h26, Int.gcd_zero_right]; congr 2; omega, rfl⟩
    · -- 23
      refine E_lload dX4_gcd_23 rfl ?_
      refine E_lconst0 dX4_gcd_25 ?_
      refine E_lcmp_eq 51 dX4_gcd_26 dX4_gcd_27 (fun h26 => ?_) (fun h26 => ?_)
      · -- 51
        refine E_lload dX4_gcd_51 rfl ?_
        refine E_lret dX4_gcd_53 ?_
        first | (exfalso; omega) | exact ⟨by rw [← h7, h26, Int.gcd_zero_right]; congr 2; omega, rfl⟩
      · -- 30
        have hstep := prod_step (b := b) (s := s) (t := t) h2 (by omega) h4
        refine E_lload dX4_gcd_30 rfl ?_
        refine E_lload dX4_gcd_32 rfl ?_
        refine E_lrem dX4_gcd_34 ?_
        refine E_lstore dX4_gcd_35 ?_
        refine E_lload dX4_gcd_37 rfl ?_
        refine E_lstore dX4_gcd_39 ?_
        refine E_lload dX4_gcd_41 rfl ?_
        refine E_lstore dX4_gcd_43 ?_
        refine E_iinc dX4_gcd_45 rfl ?_
        refine E_goto 15 dX4_gcd_48 ?_
        exact ih s (b.tmod s) (c + 1) _ hstep.2.1 hstep.2.2 (by omega) hstep.1 (by omega) (by omega) (by rw [gcd_step (by omega) (by omega)]; exact h7)
theorem gcd_first {x z : Int} (hx : -4611686018427387904 ≤ x ∧ x ≤ 4611686018427387904) (hz : -4611686018427387904 ≤ z ∧ z ≤ 4611686018427387904) (b s : Int) (hb : 0 ≤ b ∧ b ≤ 4611686018427387904) (hs : 0 ≤ s ∧ s ≤ 4611686018427387904) :
    E G mX4_gcd (Zq G mX4_gcd (R1 (vl (Int.gcd b s : Int)) M)) 0 0 15 [vl x, .retAddr 0, vl z, .retAddr 0, vl b, .retAddr 0, vl s, .retAddr 0, vi 0, .retAddr 0, .retAddr 0] [] M := by
  refine E_iload dX4_gcd_15 rfl ?_
  refine E_sipush dX4_gcd_17 ?_
  refine E_icmp_ge 51 dX4_gcd_20 (fun h20 => ?_) (fun h20 => ?_)
  · -- 51
    refine E_lload dX4_gcd_51 rfl ?_
    refine E_lret dX4_gcd_53 ?_
    first | (exfalso; omega) | exact ⟨by rw [h26, Int.gcd_zero_right]; congr 2; omega, rfl⟩
  · -- 23
    refine E_lload dX4_gcd_23 rfl ?_
    refine E_lconst0 dX4_gcd_25 ?_
    refine E_lcmp_eq 51 dX4_gcd_26 dX4_gcd_27 (fun h26 => ?_) (fun h26 => ?_)
    · -- 51
      refine E_lload dX4_gcd_51 rfl ?_
      refine E_lret dX4_gcd_53 ?_
      first | (exfalso; omega) | exact ⟨by rw [h26, Int.gcd_zero_right]; congr 2; omega, rfl⟩
    · -- 30
      refine E_lload dX4_gcd_30 rfl ?_
      refine E_lload dX4_gcd_32 rfl ?_
      refine E_lrem dX4_gcd_34 ?_
      refine E_lstore dX4_gcd_35 ?_
      refine E_lload dX4_gcd_37 rfl ?_
      refine E_lstore dX4_gcd_39 ?_
      refine E_lload dX4_gcd_41 rfl ?_
      refine E_lstore dX4_gcd_43 ?_
      refine E_iinc dX4_gcd_45 rfl ?_
      refine E_goto 15 dX4_gcd_48 ?_
      have h1 := Int.emod_nonneg b (show s ≠ 0 by omega)
      have h2 := Int.emod_lt_of_pos b (show 0 < s by omega)
      rw [Int.tmod_eq_emod_of_nonneg (by omega)]
      refine gcd_loop _ x z hx hz 125 s (b % s) (0 + 1) _ h1 h2 (by omega) ?_ (by omega) (by omega) (by rw [Int.gcd_comm, gcd_em])
      have h3 : s * (b % s) ≤ s * 4611686018427387904 := Int.mul_le_mul_of_nonneg_left (by omega) (by omega)
      have h4 : (2 : Int) ^ 125 = 42535295865117307932921825928971026432 := by decide
      omega
theorem c_gcd {x z : Int} (hx : -4611686018427387904 ≤ x ∧ x ≤ 4611686018427387904) (hz : -4611686018427387904 ≤ z ∧ z ≤ 4611686018427387904) : Ctr G mX4_gcd [vl x, vl z] M (R1 (vl (Int.gcd x z : Int)) M) := by
  refine Ctr.of ?_
  have e0 : (Int.gcd x z : Int) = Int.gcd (x.natAbs : Int) (z.natAbs : Int) := by simp [Int.gcd]
  have hb : 0 ≤ (x.natAbs : Int) ∧ (x.natAbs : Int) ≤ 4611686018427387904 := by omega
  have hs : 0 ≤ (z.natAbs : Int) ∧ (z.natAbs : Int) ≤ 4611686018427387904 := by omega
  refine E_lload_n dX4_gcd_0 rfl ?_
  refine E_callSR dX4_gcd_1 lkX4_7 (c_absl (x := x) (by omega)) ?_
  refine E_lstore dX4_gcd_4 ?_
  refine E_lload_n dX4_gcd_6 rfl ?_
  refine E_callSR dX4_gcd_7 lkX4_7 (c_absl (x := z) (by omega)) ?_
  refine E_lstore dX4_gcd_10 ?_
  refine E_iconst dX4_gcd_12 ?_
  refine E_istore dX4_gcd_13 ?_
  rw [e0]
  generalize (x.natAbs : Int) = b at hb ⊢
  generalize (z.natAbs : Int) = s at hs ⊢
  exact gcd_first hx hz b s hb hs
noncomputable def invI (x m : Int) : Int := by classical exact if h : ∃ r : Int, 0 ≤ r ∧ r < m ∧ (r * x - 1) % m = 0 then Classical.choose h else 0
theorem inv_uni {x m r r' : Int} (h : (r * x - 1) % m = 0) (h' : (r' * x - 1) % m = 0) : (r - r') % m = 0 := by
  obtain ⟨u, hu⟩ := Int.dvd_of_emod_eq_zero h
  obtain ⟨w, hw⟩ := Int.dvd_of_emod_eq_zero h'
  refine Int.emod_eq_zero_of_dvd ⟨r * -w - r' * -u, ?_⟩
  have e1 : r - r' = r * (r' * x - (r' * x - 1)) - r' * (r * x - (r * x - 1)) := by
    have : r' * x - (r' * x - 1) = 1 := by omega
    have h2 : r * x - (r * x - 1) = 1 := by omega
    rw [this, h2]; omega
  rw [e1, hu, hw]
  have e2 : r * (r' * x - m * w) = r * (r' * x) - r * (m * w) := Int.mul_sub _ _ _
  have e3 : r' * (r * x - m * u) = r' * (r * x) - r' * (m * u) := Int.mul_sub _ _ _
  have e4 : r * (r' * x) = r' * (r * x) := by rw [Int.mul_left_comm]
  have e5 : m * (r * -w - r' * -u) = m * (r * -w) - m * (r' * -u) := Int.mul_sub _ _ _
  have e6 : m * (r * -w) = -(r * (m * w)) := by rw [Int.mul_neg, Int.mul_neg, Int.mul_left_comm]
  have e7 : m * (r' * -u) = -(r' * (m * u)) := by rw [Int.mul_neg, Int.mul_neg, Int.mul_left_comm]
  omega
theorem invI_eq {x m r : Int} (h0 : 0 ≤ r) (h1 : r < m) (h : (r * x - 1) % m = 0) : invI x m = r := by
  have hex : ∃ r : Int, 0 ≤ r ∧ r < m ∧ (r * x - 1) % m = 0 := ⟨r, h0, h1, h⟩
  unfold invI
  rw [dif_pos hex]
  have hc := Classical.choose_spec hex
  have h2 := inv_uni hc.2.2 h
  obtain ⟨u, hu⟩ := Int.dvd_of_emod_eq_zero h2
  rcases (show u = 0 ∨ 1 ≤ u ∨ u ≤ -1 by omega) with rfl | h3 | h3
  · omega
  · have := Int.mul_le_mul_of_nonneg_left h3 (show 0 ≤ m by omega)
    omega
  · have := Int.mul_le_mul_of_nonneg_left h3 (show 0 ≤ m by omega)
    omega
theorem invI_rng {x m : Int} (hm : 0 < m) : 0 ≤ invI x m ∧ invI x m < m := by
  by_cases hex : ∃ r : Int, 0 ≤ r ∧ r < m ∧ (r * x - 1) % m = 0
  · obtain ⟨r, h0, h1, h⟩ := hex
    rw [invI_eq h0 h1 h]; exact ⟨h0, h1⟩
  · unfold invI
    rw [dif_neg hex]; omega
/-- what holds of the numbers in Euclid's extended walk -/
def ExI (x m b s ob os : Int) : Prop := (os * x - s) % m = 0 ∧ (ob * x - b) % m = 0 ∧ ∃ A B : Int, 0 ≤ A ∧ 0 ≤ B ∧ A ≤ m ∧ B ≤ m ∧ b * B + s * A = m ∧ ((ob = -A ∧ os = B) ∨ (ob = A ∧ os = -B))
theorem ExI.step {x m b s ob os : Int} (h : ExI x m b s ob os) (hs : 0 < s) (hb : 0 ≤ b) : ExI x m s (b - b.tdiv s * s) os (ob - b.tdiv s * os) := by
  obtain ⟨h1, h2, A, B, hA, hB, hAm, hBm, hm, hsg⟩ := h
  rw [Int.tdiv_eq_ediv_of_nonneg hb]
  have hq : 0 ≤ b / s := Int.ediv_nonneg hb (by omega)
  have hqs : b / s * s ≤ b := Int.ediv_mul_le b (by omega)
  generalize b / s = q at hq hqs ⊢
  refine ⟨?_, h1, B, A + q * B, hB, Int.add_nonneg hA (Int.mul_nonneg hq hB), hBm, ?_, ?_, ?_⟩
  · obtain ⟨u, hu⟩ := Int.dvd_of_emod_eq_zero h1
    obtain ⟨w, hw⟩ := Int.dvd_of_emod_eq_zero h2
    refine Int.emod_eq_zero_of_dvd ⟨w - q * u, ?_⟩
    have e1 : (ob - q * os) * x = ob * x - q * (os * x) := by rw [Int.sub_mul, Int.mul_assoc]
    have e2 : m * (w - q * u) = m * w - q * (m * u) := by rw [Int.mul_sub, Int.mul_left_comm]
    have e3 : q * (os * x - s) = q * (os * x) - q * s := Int.mul_sub _ _ _
    rw [e1, e2, ← hu, ← hw, e3]; omega
  · have e1 : s * (A + q * B) + (b - q * s) * B = m := by
      have e2 : s * (A + q * B) = s * A + s * (q * B) := Int.mul_add _ _ _
      have e3 : (b - q * s) * B = b * B - q * s * B := Int.sub_mul _ _ _
      have e4 : s * (q * B) = q * s * B := by rw [← Int.mul_assoc, Int.mul_comm s q]
      omega
    have hp := Int.mul_le_mul_of_nonneg_right (show 1 ≤ s by omega) (Int.add_nonneg hA (Int.mul_nonneg hq hB))
    have hr : 0 ≤ (b - q * s) * B := Int.mul_nonneg (by omega) hB
    omega
  · have e2 : s * (A + q * B) = s * A + s * (q * B) := Int.mul_add _ _ _
    have e3 : (b - q * s) * B = b * B - q * s * B := Int.sub_mul _ _ _
    have e4 : s * (q * B) = q * s * B := by rw [← Int.mul_assoc, Int.mul_comm s q]
    omega
  · rcases hsg with ⟨rfl, rfl⟩ | ⟨rfl, rfl⟩
    · exact Or.inr ⟨rfl, by omega⟩
    · exact Or.inl ⟨rfl, by rw [Int.mul_neg]; omega⟩
theorem inv_mod {x m ob : Int} (h : (ob * x - 1) % m = 0) : (ob % m * x - 1) % m = 0 := by
  obtain ⟨u, hu⟩ := Int.dvd_of_emod_eq_zero h
  have e := Int.mul_ediv_add_emod ob m
  refine Int.emod_eq_zero_of_dvd ⟨u - ob / m * x, ?_⟩
  have e1 : ob * x = (m * (ob / m) + ob % m) * x := by rw [e]
  have e2 : (m * (ob / m) + ob % m) * x = m * (ob / m * x) + ob % m * x := by rw [Int.add_mul, Int.mul_assoc]
  have e3 : m * (u - ob / m * x) = m * u - m * (ob / m * x) := Int.mul_sub _ _ _
  omega
theorem inv_loop {x m : Int} (hm : 1 ≤ m ∧ m ≤ 1099511627776) (r1 : Value) : ∀ (t : Nat) (b s ob os c : Int) (v1 v2 v3 : Value), 0 ≤ s → s < b → b ≤ m → b * s < 2 ^ t → 0 ≤ c → c + t < 200 → Int.gcd b s = 1 → ExI x m b s ob os →
    E G mX4_inverse (Zq G mX4_inverse (R1 (vl (invI x m)) M)) 0 0 19 [r1, .retAddr 0, vl m, .retAddr 0, vl b, .retAddr 0, vl s, .retAddr 0, vl ob, .retAddr 0, vl os, .retAddr 0, vi c, v1, .retAddr 0, v2, .retAddr 0, v3, .retAddr 0] [] M := by
  intro t
  induction t with
  | zero =>
    intro b s ob os c v1 v2 v3 h1 h2 h3 h4 h5 h6 h7 hE
    have h8 : s = 0 := by
      rcases (show s = 0 ∨ 1 ≤ s by omega) with h | h
      · exact h
      · have := Int.mul_le_mul_of_nonneg_left h (show 0 ≤ b by omega)
        omega
    subst h8
    rw [Int.gcd_zero_right] at h7
    have h9 : b = 1 := by omega
    subst h9
    obtain ⟨-, e2, A, B, hA, hB, hAm, hBm, -, hsg⟩ := hE
    have ho : -1099511627776 ≤ ob ∧ ob ≤ 1099511627776 := by rcases hsg with ⟨rfl, rfl⟩ | ⟨rfl, rfl⟩ <;> omega
    refine E_iload dX4_inverse_19 rfl ?_
    refine E_sipush dX4_inverse_21 ?_
    refine E_icmp_ge 83 dX4_inverse_24 (fun h24 => ?_) (fun h24 => ?_)
    · -- 83
      refine E_lload dX4_inverse_83 rfl ?_
      refine E_lload_n dX4_inverse_85 rfl ?_
      refine E_callSR dX4_inverse_86 lkX4_22 (c_modulo (x := ob) (z := m) (by omega) (by omega)) ?_
      refine E_lret dX4_inverse_89 ?_
      exact ⟨by rw [invI_eq (Int.emod_nonneg _ (by omega)) (Int.emod_lt_of_pos _ (by omega)) (inv_mod e2)], rfl⟩
    · -- 27
      refine E_lload dX4_inverse_27 rfl ?_
      refine E_lconst0 dX4_inverse_29 ?_
      refine E_lcmp_eq 83 dX4_inverse_30 dX4_inverse_31 (fun h30 => ?_) (fun h30 => ?_)
      · -- 83
        refine E_lload dX4_inverse_83 rfl ?_
        refine E_lload_n dX4_inverse_85 rfl ?_
        refine E_callSR dX4_inverse_86 lkX4_22 (c_modulo (x := ob) (z := m) (by omega) (by omega)) ?_
        refine E_lret dX4_inverse_89 ?_
        exact ⟨by rw [invI_eq (Int.emod_nonneg _ (by omega)) (Int.emod_lt_of_pos _ (by omega)) (inv_mod e2)], rfl⟩
      · -- 34
        exact absurd rfl h30
  | succ t ih =>
    intro b s ob os c v1 v2 v3 h1 h2 h3 h4 h5 h6 h7 hE
    by_cases hs0 : s = 0
    · subst hs0
      rw [Int.gcd_zero_right] at h7
      have h9 : b = 1 := by omega
      subst h9
      obtain ⟨-, e2, A, B, hA, hB, hAm, hBm, -, hsg⟩ := hE
      have ho : -1099511627776 ≤ ob ∧ ob ≤ 1099511627776 := by rcases hsg with ⟨rfl, rfl⟩ | ⟨rfl, rfl⟩ <;> omega
      refine E_iload dX4_inverse_19 rfl ?_
      refine E_sipush dX4_inverse_21 ?_
      refine E_icmp_ge 83 dX4_inverse_24 (fun h24 => ?_) (fun h24 => ?_)
      · -- 83
        refine E_lload dX4_inverse_83 rfl ?_
        refine E_lload_n dX4_inverse_85 rfl ?_
        refine E_callSR dX4_inverse_86 lkX4_22 (c_modulo (x := ob) (z := m) (by omega) (by omega)) ?_
        refine E_lret dX4_inverse_89 ?_
        exact ⟨by rw [invI_eq (Int.emod_nonneg _ (by omega)) (Int.emod_lt_of_pos _ (by omega)) (inv_mod e2)], rfl⟩
      · -- 27
        refine E_lload dX4_inverse_27 rfl ?_
        refine E_lconst0 dX4_inverse_29 ?_
        refine E_lcmp_eq 83 dX4_inverse_30 dX4_inverse_31 (fun h30 => ?_) (fun h30 => ?_)
        · -- 83
          refine E_lload dX4_inverse_83 rfl ?_
          refine E_lload_n dX4_inverse_85 rfl ?_
          refine E_callSR dX4_inverse_86 lkX4_22 (c_modulo (x := ob) (z := m) (by omega) (by omega)) ?_
          refine E_lret dX4_inverse_89 ?_
          exact ⟨by rw [invI_eq (Int.emod_nonneg _ (by omega)) (Int.emod_lt_of_pos _ (by omega)) (inv_mod e2)], rfl⟩
        · -- 34
          exact absurd rfl h30
    · have hstep := prod_step (b := b) (s := s) (t := t) h2 (by omega) h4
      have hr : b - b.tdiv s * s = b.tmod s := by rw [Int.tmod_def, Int.mul_comm]
      have hg := gcd_step (b := b) (s := s) (by omega) (by omega)
      refine E_iload dX4_inverse_19 rfl ?_
      refine E_sipush dX4_inverse_21 ?_
      refine E_icmp_ge 83 dX4_inverse_24 (fun h24 => ?_) (fun h24 => ?_)
      · -- 83
        exfalso; omega
      · -- 27
        refine E_lload dX4_inverse_27 rfl ?_
        refine E_lconst0 dX4_inverse_29 ?_
        refine E_lcmp_eq 83 dX4_inverse_30 dX4_inverse_31 (fun h30 => ?_) (fun h30 => ?_)
        · -- 83
          exfalso; omega
        · -- 34
          refine E_lload dX4_inverse_34 rfl ?_
          refine E_lload dX4_inverse_36 rfl ?_
          refine E_ldiv dX4_inverse_38 ?_
          refine E_lstore dX4_inverse_39 ?_
          refine E_lload dX4_inverse_41 rfl ?_
          refine E_lload dX4_inverse_43 rfl ?_
          refine E_lload dX4_inverse_45 rfl ?_
          refine E_lmul dX4_inverse_47 ?_
          refine E_lsub dX4_inverse_48 ?_
          refine E_lstore dX4_inverse_49 ?_
          refine E_lload dX4_inverse_51 rfl ?_
          refine E_lload dX4_inverse_53 rfl ?_
          refine E_lload dX4_inverse_55 rfl ?_
          refine E_lmul dX4_inverse_57 ?_
          refine E_lsub dX4_inverse_58 ?_
          refine E_lstore dX4_inverse_59 ?_
          refine E_lload dX4_inverse_61 rfl ?_
          refine E_lstore dX4_inverse_63 ?_
          refine E_lload dX4_inverse_65 rfl ?_
          refine E_lstore dX4_inverse_67 ?_
          refine E_lload dX4_inverse_69 rfl ?_
          refine E_lstore dX4_inverse_71 ?_
          refine E_lload dX4_inverse_73 rfl ?_
          refine E_lstore dX4_inverse_75 ?_
          refine E_iinc dX4_inverse_77 rfl ?_
          refine E_goto 19 dX4_inverse_80 ?_
          exact ih s (b - b.tdiv s * s) os (ob - b.tdiv s * os) (c + 1) _ _ _ (by omega) (by omega) (by omega) (by rw [hr]; exact hstep.1) (by omega) (by omega) (by rw [hr]; omega) (hE.step (by omega) (by omega))
theorem c_inverse {x m : Int} (hx : -4611686018427387904 ≤ x ∧ x < 4611686018427387904) (hm : 1 ≤ m ∧ m ≤ 1099511627776) (hg : Int.gcd x m = 1) : Ctr G mX4_inverse [vl x, vl m] M (R1 (vl (invI x m)) M) := by
  refine Ctr.of ?_
  have h1 := Int.emod_nonneg x (show m ≠ 0 by omega)
  have h2 := Int.emod_lt_of_pos x (show 0 < m by omega)
  refine E_lload_n dX4_inverse_0 rfl ?_
  refine E_lstore dX4_inverse_1 ?_
  refine E_lload_n dX4_inverse_3 rfl ?_
  refine E_lload_n dX4_inverse_4 rfl ?_
  refine E_callSR dX4_inverse_5 lkX4_22 (c_modulo (x := x) (z := m) (by omega) (by omega)) ?_
  refine E_lstore dX4_inverse_8 ?_
  refine E_lconst0 dX4_inverse_10 ?_
  refine E_lstore dX4_inverse_11 ?_
  refine E_lconst1 dX4_inverse_13 ?_
  refine E_lstore dX4_inverse_14 ?_
  refine E_iconst dX4_inverse_16 ?_
  refine E_istore dX4_inverse_17 ?_
  refine inv_loop hm (vl x) 81 m (x % m) 0 1 0 _ _ _ h1 h2 (by omega) ?_ (by omega) (by omega) (by rw [Int.gcd_comm, gcd_em]; exact hg) ⟨?_, ?_, 0, 1, by omega, by omega, by omega, by omega, by omega, Or.inl ⟨rfl, rfl⟩⟩
  · have h3 : m * (x % m) ≤ m * 1099511627776 := Int.mul_le_mul_of_nonneg_left (by omega) (by omega)
    have h4 : (2 : Int) ^ 81 = 2417851639229258349412352 := by decide
    omega
  · rw [Int.one_mul]; have e := Int.mul_ediv_add_emod x m; rw [show x - x % m = m * (x / m) by omega]; exact Int.mul_emod_right _ _
  · rw [Int.zero_mul]; rw [show 0 - m = m * (-1) by omega]; exact Int.mul_emod_right _ _
end NUM
