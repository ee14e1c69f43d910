/-! FibredSpacesModel: what is being made -/
section MADE
variable {G : GT} {μ : Mem} {M : HV} {σ : St}
theorem m_in {v lo hi : Int} (hv : -9223372036854775808 ≤ v ∧ v < 9223372036854775808) (h1 : -9223372036854775808 ≤ lo ∧ lo < 9223372036854775808) (h2 : -9223372036854775808 ≤ hi ∧ hi < 9223372036854775808) : Ctr G mX11_in [vl v, vl lo, vl hi] M (R1 (vi (cif (lo ≤ v ∧ v ≤ hi) 1 0)) M) := by
  refine Ctr.of ?_
  by_cases q : lo ≤ v ∧ v ≤ hi
  · rw [cif_pos q]
    refine E_lload_n dX11_in_0 rfl ?_
    refine E_lload_n dX11_in_1 rfl ?_
    refine E_lcmp_lt 17 dX11_in_2 dX11_in_3 (fun h2 => ?_) (fun h2 => ?_)
    · -- 17
      exfalso; omega
    · -- 6
      refine E_lload_n dX11_in_6 rfl ?_
      refine E_lload dX11_in_7 rfl ?_
      refine E_lcmp_gt 17 dX11_in_9 dX11_in_10 (fun h9 => ?_) (fun h9 => ?_)
      · -- 17
        exfalso; omega
      · -- 13
        refine E_iconst dX11_in_13 ?_
        refine E_goto 18 dX11_in_14 ?_
        refine E_zret dX11_in_18 ?_ (by first | exact Or.inl rfl | exact Or.inr rfl | omega)
        exact ⟨rfl, rfl⟩
  · rw [cif_neg q]
    refine E_lload_n dX11_in_0 rfl ?_
    refine E_lload_n dX11_in_1 rfl ?_
    refine E_lcmp_lt 17 dX11_in_2 dX11_in_3 (fun h2 => ?_) (fun h2 => ?_)
    · -- 17
      refine E_iconst dX11_in_17 ?_
      refine E_zret dX11_in_18 ?_ (by first | exact Or.inl rfl | exact Or.inr rfl | omega)
      exact ⟨rfl, rfl⟩
    · -- 6
      refine E_lload_n dX11_in_6 rfl ?_
      refine E_lload dX11_in_7 rfl ?_
      refine E_lcmp_gt 17 dX11_in_9 dX11_in_10 (fun h9 => ?_) (fun h9 => ?_)
      · -- 17
        refine E_iconst dX11_in_17 ?_
        refine E_zret dX11_in_18 ?_ (by first | exact Or.inl rfl | exact Or.inr rfl | omega)
        exact ⟨rfl, rfl⟩
      · -- 13
        exfalso; omega
theorem m_isSpace {i : Int} (hi : -2147483648 ≤ i ∧ i < 2147483648) : Ctr G mX11_isSpace [vi i] M (R1 (vi (cif (isS i) 1 0)) M) := by
  refine Ctr.of ?_
  have e : cif (0 ≤ i ∧ i ≤ 5) (1 : Int) 0 = cif (isS i) 1 0 := by
    by_cases q : isS i
    · rw [cif_pos q, cif_pos ⟨q.1, by have := q.2; omega⟩]
    · rw [cif_neg q, cif_neg (fun h => q ⟨h.1, by omega⟩)]
  have r : 0 ≤ cif (isS i) (1 : Int) 0 ∧ cif (isS i) (1 : Int) 0 ≤ 1 := by
    by_cases q : isS i
    · rw [cif_pos q]; omega
    · rw [cif_neg q]; omega
  refine E_iload_n dX11_isSpace_0 rfl ?_
  refine E_i2l dX11_isSpace_1 ?_
  refine E_lconst0 dX11_isSpace_2 ?_
  refine E_ldc2 dX11_isSpace_3 coX11_61 ?_
  refine E_callSR dX11_isSpace_6 lkX11_63 (m_in (v := i) (lo := 0) (hi := 5) (by omega) (by omega) (by omega)) ?_
  rw [e]
  refine E_zret dX11_isSpace_9 ?_ (by first | exact Or.inl rfl | exact Or.inr rfl | omega)
  exact ⟨rfl, rfl⟩
theorem common_loop {c1 c2 : Int} {g : Int} : ∀ (n : Nat) (x y : Int) (w : Value), 0 ≤ x → x ≤ 9223372036854775807 → 0 ≤ y → y ≤ 9223372036854775807 → y ≤ n → (Int.gcd x y : Int) = g →
    E G mX11_common (Zq G mX11_common (R1 (vl g) M)) 0 0 28 [vl c1, .retAddr 0, vl c2, .retAddr 0, vl x, .retAddr 0, vl y, .retAddr 0, w, .retAddr 0] [] M := by
  intro n
  induction n with
  | zero =>
    intro x y w h1 h2 h3 h3' h4 h5
    have h6 : y = 0 := by omega
    subst h6
    have h9 : g = x := by rw [← h5, Int.gcd_zero_right]; omega
    refine E_lload dX11_common_28 rfl ?_
    refine E_lconst0 dX11_common_30 ?_
    refine E_lcmp_eq 53 dX11_common_31 dX11_common_32 (fun h31 => ?_) (fun h31 => ?_)
    · -- 53
      refine E_lload dX11_common_53 rfl ?_
      refine E_lret dX11_common_55 ?_
      exact ⟨by rw [h9], rfl⟩
    · -- 35
      exact absurd rfl h31
  | succ n ih =>
    intro x y w h1 h2 h3 h3' h4 h5
    refine E_lload dX11_common_28 rfl ?_
    refine E_lconst0 dX11_common_30 ?_
    refine E_lcmp_eq 53 dX11_common_31 dX11_common_32 (fun h31 => ?_) (fun h31 => ?_)
    · -- 53
      refine E_lload dX11_common_53 rfl ?_
      refine E_lret dX11_common_55 ?_
      exact ⟨by rw [← h5, h31, Int.gcd_zero_right]; congr 2; omega, rfl⟩
    · -- 35
      refine E_lload dX11_common_35 rfl ?_
      refine E_lload dX11_common_37 rfl ?_
      refine E_lrem dX11_common_39 ?_
      refine E_lstore dX11_common_40 ?_
      refine E_lload dX11_common_42 rfl ?_
      refine E_lstore dX11_common_44 ?_
      refine E_lload dX11_common_46 rfl ?_
      refine E_lstore dX11_common_48 ?_
      refine E_goto 28 dX11_common_50 ?_
      have t1 := Int.emod_nonneg x (show y ≠ 0 by omega)
      have t2 := Int.emod_lt_of_pos x (show 0 < y by omega)
      rw [Int.tmod_eq_emod_of_nonneg (by omega)]
      exact ih y (x % y) _ (by omega) (by omega) t1 (by omega) (by omega) (by rw [Int.gcd_comm, gcd_em]; exact h5)
theorem m_common {x z : Int} (hx : -9223372036854775807 ≤ x ∧ x ≤ 9223372036854775807) (hz : -9223372036854775807 ≤ z ∧ z ≤ 9223372036854775807) : Ctr G mX11_common [vl x, vl z] M (R1 (vl (Int.gcd x z : Int)) M) := by
  refine Ctr.of ?_
  refine E_lload_n dX11_common_0 rfl ?_
  refine E_lconst0 dX11_common_1 ?_
  refine E_lcmp_ge 11 dX11_common_2 dX11_common_3 (fun h2 => ?_) (fun h2 => ?_)
  · -- 11
    refine E_lload_n dX11_common_11 rfl ?_
    refine E_lstore dX11_common_12 ?_
    refine E_lload_n dX11_common_14 rfl ?_
    refine E_lconst0 dX11_common_15 ?_
    refine E_lcmp_ge 25 dX11_common_16 dX11_common_17 (fun h16 => ?_) (fun h16 => ?_)
    · -- 25
      refine E_lload_n dX11_common_25 rfl ?_
      refine E_lstore dX11_common_26 ?_
      exact common_loop z.natAbs _ _ _ (by omega) (by omega) (by omega) (by omega) (by omega) (by simp [Int.neg_gcd, Int.gcd_neg])
    · -- 20
      refine E_lload_n dX11_common_20 rfl ?_
      refine E_lneg dX11_common_21 ?_
      refine E_goto 26 dX11_common_22 ?_
      refine E_lstore dX11_common_26 ?_
      exact common_loop z.natAbs _ _ _ (by omega) (by omega) (by omega) (by omega) (by omega) (by simp [Int.neg_gcd, Int.gcd_neg])
  · -- 6
    refine E_lload_n dX11_common_6 rfl ?_
    refine E_lneg dX11_common_7 ?_
    refine E_goto 12 dX11_common_8 ?_
    refine E_lstore dX11_common_12 ?_
    refine E_lload_n dX11_common_14 rfl ?_
    refine E_lconst0 dX11_common_15 ?_
    refine E_lcmp_ge 25 dX11_common_16 dX11_common_17 (fun h16 => ?_) (fun h16 => ?_)
    · -- 25
      refine E_lload_n dX11_common_25 rfl ?_
      refine E_lstore dX11_common_26 ?_
      exact common_loop z.natAbs _ _ _ (by omega) (by omega) (by omega) (by omega) (by omega) (by simp [Int.neg_gcd, Int.gcd_neg])
    · -- 20
      refine E_lload_n dX11_common_20 rfl ?_
      refine E_lneg dX11_common_21 ?_
      refine E_goto 26 dX11_common_22 ?_
      refine E_lstore dX11_common_26 ?_
      exact common_loop z.natAbs _ _ _ (by omega) (by omega) (by omega) (by omega) (by omega) (by simp [Int.neg_gcd, Int.gcd_neg])
theorem m_left {x z : Int} (hx : -2147483648 ≤ x ∧ x < 2147483648) (hz : 0 < z ∧ z < 1073741824) : Ctr G mX11_left [vi x, vi z] M (R1 (vi (x % z)) M) := by
  refine Ctr.of ?_
  rcases (show x < 0 ∨ 0 ≤ x by omega) with q | q
  · have t1 := td_r q hz.1
    refine E_iload_n dX11_left_0 rfl ?_
    refine E_iload_n dX11_left_1 rfl ?_
    refine E_irem dX11_left_2 ?_
    refine E_istore_n dX11_left_3 ?_
    refine E_iload_n dX11_left_4 rfl ?_
    refine E_if_ge 14 dX11_left_5 (fun h5 => ?_) (fun h5 => ?_)
    · -- 14
      refine E_iload_n dX11_left_14 rfl ?_
      refine E_iret dX11_left_15 ?_
      refine ⟨?_, rfl⟩
      congr 2
      first | exact tm_neg2 q hz.1 (by omega) | exact (show x.tmod z = 0 by omega).trans (tm_neg1 hz.1 (by omega)).symm
    · -- 8
      refine E_iload_n dX11_left_8 rfl ?_
      refine E_iload_n dX11_left_9 rfl ?_
      refine E_iadd dX11_left_10 ?_
      refine E_goto 15 dX11_left_11 ?_
      refine E_iret dX11_left_15 ?_
      refine ⟨?_, rfl⟩
      congr 2
      first | exact tm_neg2 q hz.1 (by omega) | exact (show x.tmod z = 0 by omega).trans (tm_neg1 hz.1 (by omega)).symm
  · have t1 := Int.tmod_nonneg z q
    have t2 := Int.tmod_lt_of_pos x hz.1
    refine E_iload_n dX11_left_0 rfl ?_
    refine E_iload_n dX11_left_1 rfl ?_
    refine E_irem dX11_left_2 ?_
    refine E_istore_n dX11_left_3 ?_
    refine E_iload_n dX11_left_4 rfl ?_
    refine E_if_ge 14 dX11_left_5 (fun h5 => ?_) (fun h5 => ?_)
    · -- 14
      refine E_iload_n dX11_left_14 rfl ?_
      refine E_iret dX11_left_15 ?_
      refine ⟨?_, rfl⟩
      congr 2
      exact Int.tmod_eq_emod_of_nonneg q
    · -- 8
      exfalso; omega
/-- what is made, at the model's fields 5 to 8 and its two rows -/
def RepB (μ : Mem) (d : Sp) : Prop := μ 203 5 = d.1 ∧ μ 203 6 = d.2.1 ∧ μ 203 7 = d.2.2.1 ∧ μ 203 8 = d.2.2.2.length ∧ RepL μ 208 209 d.2.2.2
def OffB (μ μ' : Mem) : Prop := (∀ q : Nat, q ≠ 203 → q ≠ 208 → q ≠ 209 → μ' q = μ q) ∧ ∀ j : Int, (j < 5 ∨ 8 < j) → μ' 203 j = μ 203 j
theorem OffB.rf : OffB μ μ := ⟨fun _ _ _ _ => rfl, fun _ _ => rfl⟩
theorem OffB.tr {μ1 μ2 : Mem} (h : OffB μ μ1) (h' : OffB μ1 μ2) : OffB μ μ2 := ⟨fun q a b c => by rw [h'.1 q a b c, h.1 q a b c], fun j hj => by rw [h'.2 j hj, h.2 j hj]⟩
theorem OffB.fld {μ1 : Mem} {j x : Int} (h : OffB μ μ1) (hj : 5 ≤ j ∧ j ≤ 8) : OffB μ (up μ1 203 j x) := ⟨fun q a b c => by rw [up_ne q (by omega)]; exact h.1 q a b c, fun i hi => by rw [up_r, if_neg (by omega)]; exact h.2 i hi⟩
theorem OffB.row {μ1 : Mem} {r : Nat} {j x : Int} (h : OffB μ μ1) (hr : r = 208 ∨ r = 209) : OffB μ (up μ1 r j x) := ⟨fun q a b c => by rw [up_ne q (by omega)]; exact h.1 q a b c, fun i hi => by rw [up_ne 203 (by omega)]; exact h.2 i hi⟩
theorem m_begin {a b c : Int} : Ctr G mX11_begin [.ref 203, vi a, vi b, vi c] (Hp μ) (V0 (fun μ' => RepB μ' (a, b, c, []) ∧ OffB μ μ')) := by
  refine Ctr.of ?_
  refine E_aload_n dX11_begin_0 rfl ?_
  refine E_iload_n dX11_begin_1 rfl ?_
  refine PX11_67 sk_203 dX11_begin_2 ?_
  refine E_aload_n dX11_begin_5 rfl ?_
  refine E_iload_n dX11_begin_6 rfl ?_
  refine PX11_70 sk_203 dX11_begin_7 ?_
  refine E_aload_n dX11_begin_10 rfl ?_
  refine E_iload_n dX11_begin_11 rfl ?_
  refine PX11_73 sk_203 dX11_begin_12 ?_
  refine E_aload_n dX11_begin_15 rfl ?_
  refine E_iconst dX11_begin_16 ?_
  refine PX11_76 sk_203 dX11_begin_17 ?_
  refine E_vret dX11_begin_20 ?_
  refine ⟨rfl, _, rfl, ⟨?_, ?_, ?_, ?_, fun k x hx => by simp at hx⟩, (((OffB.rf.fld (by omega)).fld (by omega)).fld (by omega)).fld (by omega)⟩
  · rw [up_r, if_neg (by omega), up_r, if_neg (by omega), up_r, if_neg (by omega), up_r, if_pos rfl]
  · rw [up_r, if_neg (by omega), up_r, if_neg (by omega), up_r, if_pos rfl]
  · rw [up_r, if_neg (by omega), up_r, if_pos rfl]
  · rw [up_r, if_pos rfl]; rfl
theorem madd_loop {x : Fib} {l : List Fib} {v1 v2 v3 : Value} (hv1 : v1 = vi x.1) (hv3 : v3 = vi x.2) (hx : smF x) (hl : ∀ y ∈ l, smF y) (hn : l.length < 20) : ∀ (n : Nat) (p q : List Fib) (μ' : Mem), p.length = n → p ++ q = l → (∀ y ∈ q, gtP y x = true) → InsI μ' 208 209 p q → μ' 203 = μ 203 → OffB μ μ' →
    E G mX11_add (Zq G mX11_add (V0 (fun μ' => RepL μ' 208 209 (ins x l) ∧ (∀ j : Int, μ' 203 j = if j = 8 then μ 203 8 + 1 else μ 203 j) ∧ OffB μ μ'))) 0 0 31 [.ref 203, v1, v2, v3, vi (p.length : Int)] [] (Hp μ') := by
  subst hv1 hv3
  intro n
  induction n with
  | zero =>
    intro p q μ' h1 h2 h3 h4 h5 h6
    obtain rfl : p = [] := List.length_eq_zero_iff.mp h1
    have hd := ins_end (by omega) h4 h3 (fun y t e => by simp at e) h2
    refine E_iload dX11_add_31 rfl ?_
    refine E_if_le 113 dX11_add_33 (fun h33 => ?_) (fun h33 => ?_)
    · -- 113
      refine E_aload_n dX11_add_113 rfl ?_
      refine GX11_23 sk_203 dX11_add_114 ?_
      refine E_iload dX11_add_117 rfl ?_
      refine E_iload_n dX11_add_119 rfl ?_
      refine H_iast sk_208 dX11_add_120 ?_
      refine E_aload_n dX11_add_121 rfl ?_
      refine GX11_26 sk_203 dX11_add_122 ?_
      refine E_iload dX11_add_125 rfl ?_
      refine E_iload_n dX11_add_127 rfl ?_
      refine H_iast sk_209 dX11_add_128 ?_
      refine E_aload_n dX11_add_129 rfl ?_
      refine E_dup dX11_add_130 ?_
      refine GX11_76 sk_203 dX11_add_131 ?_
      rw [up_ne 203 (by decide), up_ne 203 (by decide), h5]
      refine E_iconst dX11_add_134 ?_
      refine E_iadd dX11_add_135 ?_
      refine PX11_76 sk_203 dX11_add_136 ?_
      refine E_vret dX11_add_139 ?_
      refine ⟨rfl, _, rfl, hd.kept (up_ne 208 (by decide)) (up_ne 209 (by decide)), ?_, ((h6.row (Or.inl rfl)).row (Or.inr rfl)).fld (by omega)⟩
      intro j; rw [up_r, up_ne 203 (by decide), up_ne 203 (by decide), h5]
    · -- 36
      exact absurd h33 (by simp)
  | succ n ih =>
    intro p q μ' h1 h2 h3 h4 h5 h6
    rcases list_end p with rfl | ⟨p, y, rfl⟩
    · simp at h1
    have hy := hl y (by rw [← h2]; simp)
    have hla := h4.last
    have hp1 : ((p ++ [y]).length : Int) = (p.length : Int) + 1 := by simp
    have hp2 : p.length + 1 < 20 := by
      have := congrArg List.length h2
      simp at this
      omega
    have hs : (p.length : Int) + 1 - 1 = p.length := by omega
    have hd : gtP y x = false → RepL (up (up μ' 208 ((p.length : Int) + 1) x.1) 209 ((p.length : Int) + 1) x.2) 208 209 (ins x l) := fun hg => by
      rw [← hp1]
      refine ins_end (by omega) h4 h3 (fun z t e => ?_) h2
      have := List.append_inj' e rfl
      simp at this
      rw [← this.2]; exact hg
    have hsh := h4.shift (show 208 ≠ 209 by omega)
    obtain ⟨hx1, hx2, hx3, hx4⟩ := id hx
    obtain ⟨hy1, hy2, hy3, hy4⟩ := hy
    rw [hp1]
    refine E_iload dX11_add_31 rfl ?_
    refine E_if_le 113 dX11_add_33 (fun h33 => ?_) (fun h33 => ?_)
    · -- 113
      refine E_aload_n dX11_add_113 rfl ?_
      refine GX11_23 sk_203 dX11_add_114 ?_
      refine E_iload dX11_add_117 rfl ?_
      refine E_iload_n dX11_add_119 rfl ?_
      refine H_iast sk_208 dX11_add_120 ?_
      refine E_aload_n dX11_add_121 rfl ?_
      refine GX11_26 sk_203 dX11_add_122 ?_
      refine E_iload dX11_add_125 rfl ?_
      refine E_iload_n dX11_add_127 rfl ?_
      refine H_iast sk_209 dX11_add_128 ?_
      refine E_aload_n dX11_add_129 rfl ?_
      refine E_dup dX11_add_130 ?_
      refine GX11_76 sk_203 dX11_add_131 ?_
      rw [up_ne 203 (by decide), up_ne 203 (by decide), h5]
      refine E_iconst dX11_add_134 ?_
      refine E_iadd dX11_add_135 ?_
      refine PX11_76 sk_203 dX11_add_136 ?_
      refine E_vret dX11_add_139 ?_
      first | (exfalso; omega) | (refine ⟨rfl, _, rfl, (hd (gtP_0 (by omega) (by omega))).kept (up_ne 208 (by decide)) (up_ne 209 (by decide)), ?_, ((h6.row (Or.inl rfl)).row (Or.inr rfl)).fld (by omega)⟩; intro j; rw [up_r, up_ne 203 (by decide), up_ne 203 (by decide), h5])
    · -- 36
      refine E_aload_n dX11_add_36 rfl ?_
      refine GX11_23 sk_203 dX11_add_37 ?_
      refine E_iload dX11_add_40 rfl ?_
      refine E_iconst dX11_add_42 ?_
      refine E_isub dX11_add_43 ?_
      refine H_iald sk_208 dX11_add_44 ?_
      rw [hs, hla.1]
      refine E_iload_n dX11_add_45 rfl ?_
      refine E_icmp_gt 75 dX11_add_46 (fun h46 => ?_) (fun h46 => ?_)
      · -- 75
        refine E_aload_n dX11_add_75 rfl ?_
        refine GX11_23 sk_203 dX11_add_76 ?_
        refine E_iload dX11_add_79 rfl ?_
        refine E_aload_n dX11_add_81 rfl ?_
        refine GX11_23 sk_203 dX11_add_82 ?_
        refine E_iload dX11_add_85 rfl ?_
        refine E_iconst dX11_add_87 ?_
        refine E_isub dX11_add_88 ?_
        refine H_iald sk_208 dX11_add_89 ?_
        rw [hs, hla.1]
        refine H_iast sk_208 dX11_add_90 ?_
        refine E_aload_n dX11_add_91 rfl ?_
        refine GX11_26 sk_203 dX11_add_92 ?_
        refine E_iload dX11_add_95 rfl ?_
        refine E_aload_n dX11_add_97 rfl ?_
        refine GX11_26 sk_203 dX11_add_98 ?_
        refine E_iload dX11_add_101 rfl ?_
        refine E_iconst dX11_add_103 ?_
        refine E_isub dX11_add_104 ?_
        refine H_iald sk_209 dX11_add_105 ?_
        rw [hs, up_ne 209 (by decide), hla.2]
        refine H_iast sk_209 dX11_add_106 ?_
        refine E_iinc dX11_add_107 rfl ?_
        refine E_goto 31 dX11_add_110 ?_
        rw [show (p.length : Int) + 1 + -1 = p.length by omega]
        refine ih p (y :: q) _ (by simp at h1; omega) (by rw [← h2]; simp) ?_ hsh (by rw [up_ne 203 (by decide), up_ne 203 (by decide)]; exact h5) ((h6.row (Or.inl rfl)).row (Or.inr rfl))
        intro z hz
        rcases List.mem_cons.mp hz with rfl | hz
        · first | exact gtP_1 (by omega) | exact gtP_2 (by omega) (by omega)
        · exact h3 z hz
      · -- 49
        refine E_aload_n dX11_add_49 rfl ?_
        refine GX11_23 sk_203 dX11_add_50 ?_
        refine E_iload dX11_add_53 rfl ?_
        refine E_iconst dX11_add_55 ?_
        refine E_isub dX11_add_56 ?_
        refine H_iald sk_208 dX11_add_57 ?_
        rw [hs, hla.1]
        refine E_iload_n dX11_add_58 rfl ?_
        refine E_icmp_ne 113 dX11_add_59 (fun h59 => ?_) (fun h59 => ?_)
        · -- 113
          refine E_aload_n dX11_add_113 rfl ?_
          refine GX11_23 sk_203 dX11_add_114 ?_
          refine E_iload dX11_add_117 rfl ?_
          refine E_iload_n dX11_add_119 rfl ?_
          refine H_iast sk_208 dX11_add_120 ?_
          refine E_aload_n dX11_add_121 rfl ?_
          refine GX11_26 sk_203 dX11_add_122 ?_
          refine E_iload dX11_add_125 rfl ?_
          refine E_iload_n dX11_add_127 rfl ?_
          refine H_iast sk_209 dX11_add_128 ?_
          refine E_aload_n dX11_add_129 rfl ?_
          refine E_dup dX11_add_130 ?_
          refine GX11_76 sk_203 dX11_add_131 ?_
          rw [up_ne 203 (by decide), up_ne 203 (by decide), h5]
          refine E_iconst dX11_add_134 ?_
          refine E_iadd dX11_add_135 ?_
          refine PX11_76 sk_203 dX11_add_136 ?_
          refine E_vret dX11_add_139 ?_
          first | (exfalso; omega) | (refine ⟨rfl, _, rfl, (hd (gtP_0 (by omega) (by omega))).kept (up_ne 208 (by decide)) (up_ne 209 (by decide)), ?_, ((h6.row (Or.inl rfl)).row (Or.inr rfl)).fld (by omega)⟩; intro j; rw [up_r, up_ne 203 (by decide), up_ne 203 (by decide), h5])
        · -- 62
          refine E_aload_n dX11_add_62 rfl ?_
          refine GX11_26 sk_203 dX11_add_63 ?_
          refine E_iload dX11_add_66 rfl ?_
          refine E_iconst dX11_add_68 ?_
          refine E_isub dX11_add_69 ?_
          refine H_iald sk_209 dX11_add_70 ?_
          rw [hs, hla.2]
          refine E_iload_n dX11_add_71 rfl ?_
          refine E_icmp_le 113 dX11_add_72 (fun h72 => ?_) (fun h72 => ?_)
          · -- 113
            refine E_aload_n dX11_add_113 rfl ?_
            refine GX11_23 sk_203 dX11_add_114 ?_
            refine E_iload dX11_add_117 rfl ?_
            refine E_iload_n dX11_add_119 rfl ?_
            refine H_iast sk_208 dX11_add_120 ?_
            refine E_aload_n dX11_add_121 rfl ?_
            refine GX11_26 sk_203 dX11_add_122 ?_
            refine E_iload dX11_add_125 rfl ?_
            refine E_iload_n dX11_add_127 rfl ?_
            refine H_iast sk_209 dX11_add_128 ?_
            refine E_aload_n dX11_add_129 rfl ?_
            refine E_dup dX11_add_130 ?_
            refine GX11_76 sk_203 dX11_add_131 ?_
            rw [up_ne 203 (by decide), up_ne 203 (by decide), h5]
            refine E_iconst dX11_add_134 ?_
            refine E_iadd dX11_add_135 ?_
            refine PX11_76 sk_203 dX11_add_136 ?_
            refine E_vret dX11_add_139 ?_
            first | (exfalso; omega) | (refine ⟨rfl, _, rfl, (hd (gtP_0 (by omega) (by omega))).kept (up_ne 208 (by decide)) (up_ne 209 (by decide)), ?_, ((h6.row (Or.inl rfl)).row (Or.inr rfl)).fld (by omega)⟩; intro j; rw [up_r, up_ne 203 (by decide), up_ne 203 (by decide), h5])
          · -- 75
            refine E_aload_n dX11_add_75 rfl ?_
            refine GX11_23 sk_203 dX11_add_76 ?_
            refine E_iload dX11_add_79 rfl ?_
            refine E_aload_n dX11_add_81 rfl ?_
            refine GX11_23 sk_203 dX11_add_82 ?_
            refine E_iload dX11_add_85 rfl ?_
            refine E_iconst dX11_add_87 ?_
            refine E_isub dX11_add_88 ?_
            refine H_iald sk_208 dX11_add_89 ?_
            rw [hs, hla.1]
            refine H_iast sk_208 dX11_add_90 ?_
            refine E_aload_n dX11_add_91 rfl ?_
            refine GX11_26 sk_203 dX11_add_92 ?_
            refine E_iload dX11_add_95 rfl ?_
            refine E_aload_n dX11_add_97 rfl ?_
            refine GX11_26 sk_203 dX11_add_98 ?_
            refine E_iload dX11_add_101 rfl ?_
            refine E_iconst dX11_add_103 ?_
            refine E_isub dX11_add_104 ?_
            refine H_iald sk_209 dX11_add_105 ?_
            rw [hs, up_ne 209 (by decide), hla.2]
            refine H_iast sk_209 dX11_add_106 ?_
            refine E_iinc dX11_add_107 rfl ?_
            refine E_goto 31 dX11_add_110 ?_
            rw [show (p.length : Int) + 1 + -1 = p.length by omega]
            refine ih p (y :: q) _ (by simp at h1; omega) (by rw [← h2]; simp) ?_ hsh (by rw [up_ne 203 (by decide), up_ne 203 (by decide)]; exact h5) ((h6.row (Or.inl rfl)).row (Or.inr rfl))
            intro z hz
            rcases List.mem_cons.mp hz with rfl | hz
            · first | exact gtP_1 (by omega) | exact gtP_2 (by omega) (by omega)
            · exact h3 z hz
theorem m_add {d : Sp} {a b : Int} (hd : RepB μ d) (ha : 1 ≤ a ∧ a ≤ 1000) (hb : -1000000 ≤ b ∧ b ≤ 1000000) (hl : ∀ y ∈ d.2.2.2, smF y) (hn : d.2.2.2.length < 20) : Ctr G mX11_add [.ref 203, vi a, vi b] (Hp μ) (V0 (fun μ' => RepB μ' (put d a b) ∧ OffB μ μ')) := by
  refine Ctr.of ?_
  obtain ⟨a1, a2, a3, a4, a5⟩ := id hd
  have hm0 := Int.emod_nonneg b (show a ≠ 0 by omega)
  have hm1 := Int.emod_lt_of_pos b (show 0 < a by omega)
  have hq : (b - b % a).tdiv a = b / a := by
    have e := Int.mul_ediv_add_emod b a
    rw [show b - b % a = a * (b / a) by omega]
    exact Int.mul_tdiv_cancel_left _ (by omega)
  have ho : OffB μ (up μ 203 7 (μ 203 7 + b / a)) := OffB.rf.fld (by omega)
  refine E_iload_n dX11_add_0 rfl ?_
  refine E_iload_n dX11_add_1 rfl ?_
  refine E_callSR dX11_add_2 lkX11_79 (m_left (x := b) (z := a) (by omega) (by omega)) ?_
  refine E_istore_n dX11_add_5 ?_
  refine E_aload_n dX11_add_6 rfl ?_
  refine E_dup dX11_add_7 ?_
  refine GX11_73 sk_203 dX11_add_8 ?_
  refine E_iload_n dX11_add_11 rfl ?_
  refine E_iload_n dX11_add_12 rfl ?_
  refine E_isub dX11_add_13 ?_
  refine E_iload_n dX11_add_14 rfl ?_
  refine E_idiv dX11_add_15 ?_
  rw [hq]
  refine E_iadd dX11_add_16 ?_
  refine PX11_73 sk_203 dX11_add_17 ?_
  refine E_iload_n dX11_add_20 rfl ?_
  refine E_iconst dX11_add_21 ?_
  refine E_icmp_le 139 dX11_add_22 (fun h22 => ?_) (fun h22 => ?_)
  · -- 139
    refine E_vret dX11_add_139 ?_
    have ep : put d a b = (d.1, d.2.1, d.2.2.1 + b / a, d.2.2.2) := by unfold put; rw [if_neg (by omega)]
    rw [ep]
    refine ⟨rfl, _, rfl, ⟨?_, ?_, ?_, ?_, a5.kept (up_ne 208 (by decide)) (up_ne 209 (by decide))⟩, ho⟩
    · rw [up_r, if_neg (by omega)]; exact a1
    · rw [up_r, if_neg (by omega)]; exact a2
    · rw [up_r, if_pos rfl, a3]
    · rw [up_r, if_neg (by omega)]; exact a4
  · -- 25
    refine E_aload_n dX11_add_25 rfl ?_
    refine GX11_76 sk_203 dX11_add_26 ?_
    refine E_istore dX11_add_29 ?_
    rw [up_r, if_neg (by omega), a4]
    refine E_mono ?_ (madd_loop (x := (a, b % a)) (μ := up μ 203 7 (μ 203 7 + b / a)) rfl rfl ⟨by simp; omega, by simp; omega, by simp; omega, by simp; omega⟩ hl hn _ d.2.2.2 [] _ rfl (by simp) (fun y hy => by simp at hy) (InsI.of (a5.kept (up_ne 208 (by decide)) (up_ne 209 (by decide)))) rfl OffB.rf)
    rintro v M ⟨hv, μ', hM, g1, g2, g3⟩
    have ep : put d a b = (d.1, d.2.1, d.2.2.1 + b / a, ins (a, b % a) d.2.2.2) := by unfold put; rw [if_pos (by omega)]
    rw [ep]
    refine ⟨hv, μ', hM, ⟨?_, ?_, ?_, ?_, g1⟩, ho.tr g3⟩
    · rw [g2, if_neg (by omega), up_r, if_neg (by omega)]; exact a1
    · rw [g2, if_neg (by omega), up_r, if_neg (by omega)]; exact a2
    · rw [g2, if_neg (by omega), up_r, if_pos rfl, a3]
    · rw [g2, if_pos rfl, up_r, if_neg (by omega), a4]; simp [ins_len]
end MADE
