/-! shelves, the ring of shelves, fractions -/
theorem isSh_1 : isSh 1 := by
  refine ⟨by rw [SK_eq]; rfl, by rw [SK_eq]; rfl, fun i hi => ?_⟩
  rcases (show i = 0 ∨ i = 1 ∨ i = 2 ∨ i = 3 ∨ i = 4 ∨ i = 5 by omega) with rfl | rfl | rfl | rfl | rfl | rfl <;> exact ⟨by rw [SK_eq]; rfl, by rw [SK_eq]; rfl, by rw [SK_eq]; rfl⟩
theorem isSh_h : ∀ k : Nat, k < 6 → isSh (23 + 20 * k) := by
  intro k hk
  rcases (show k = 0 ∨ k = 1 ∨ k = 2 ∨ k = 3 ∨ k = 4 ∨ k = 5 by omega) with rfl | rfl | rfl | rfl | rfl | rfl <;> refine ⟨by rw [SK_eq]; rfl, by rw [SK_eq]; rfl, fun i hi => ?_⟩ <;> rcases (show i = 0 ∨ i = 1 ∨ i = 2 ∨ i = 3 ∨ i = 4 ∨ i = 5 by omega) with rfl | rfl | rfl | rfl | rfl | rfl <;> exact ⟨by rw [SK_eq]; rfl, by rw [SK_eq]; rfl, by rw [SK_eq]; rfl⟩
theorem isSh_i : ∀ k : Nat, k < 2 → isSh (163 + 20 * k) := by
  intro k hk
  rcases (show k = 0 ∨ k = 1 by omega) with rfl | rfl <;> refine ⟨by rw [SK_eq]; rfl, by rw [SK_eq]; rfl, fun i hi => ?_⟩ <;> rcases (show i = 0 ∨ i = 1 ∨ i = 2 ∨ i = 3 ∨ i = 4 ∨ i = 5 by omega) with rfl | rfl | rfl | rfl | rfl | rfl <;> exact ⟨by rw [SK_eq]; rfl, by rw [SK_eq]; rfl, by rw [SK_eq]; rfl⟩
theorem isSp_150 : isSp 150 := by
  exact ⟨by rw [SK_eq]; rfl, by rw [SK_eq]; rfl, by rw [SK_eq]; rfl⟩
def RepSh (μ : Mem) (r : Nat) (sh : Nat → Sp) : Prop := ∀ i : Nat, i < 6 → RepS μ (r + 2 + 3 * i) (sh i)
theorem RepSh.off {μ μ' : Mem} {r lo n : Nat} {sh : Nat → Sp} (h : RepSh μ r sh) (ho : Off lo n μ μ') (hr : r + 20 ≤ lo ∨ lo + n ≤ r + 2) : RepSh μ' r sh := fun i hi => (h i hi).off ho (by omega)
def shOk (sh : Nat → Sp) : Prop := ∀ i : Nat, i < 6 → spOk (sh i)
theorem sh_at {r i : Nat} (hi : i < 6) : [r + 2, r + 5, r + 8, r + 11, r + 14, r + 17][((i : Nat) : Int).toNat]? = some (r + 2 + 3 * i) := by
  rcases (show i = 0 ∨ i = 1 ∨ i = 2 ∨ i = 3 ∨ i = 4 ∨ i = 5 by omega) with rfl | rfl | rfl | rfl | rfl | rfl <;> rfl
def sumF (sh : Nat → Sp) : Nat → Int
  | 0 => 0
  | n + 1 => sumF sh n + (sh n).2.2.2.length
section SHELF
variable {G : GT} {μ : Mem} {r f : Nat}
theorem shcopy_loop {sh : Nat → Sp} (hr : isSh r) (hf : isSh f) (hd : f + 20 ≤ r ∨ r + 20 ≤ f) (hs : RepSh μ f sh) (hok : shOk sh) : ∀ (t k : Nat) (μ' : Mem), k + t = 6 → (∀ i : Nat, i < k → RepS μ' (r + 2 + 3 * i) (sh i)) → Off r 20 μ μ' →
    E G mX6_copy (Zq G mX6_copy (V0 (fun μ' => RepSh μ' r sh ∧ Off r 20 μ μ'))) 0 0 2 [.ref r, .ref f, vi (k : Int)] [] (Hp μ') := by
  intro t
  induction t with
  | zero =>
    intro k μ' h1 h2 h3
    refine E_iload_n dX6_copy_2 rfl ?_
    refine E_bipush dX6_copy_3 ?_
    refine E_icmp_ge 29 dX6_copy_5 (fun h5 => ?_) (fun h5 => ?_)
    · -- 29
      refine E_vret dX6_copy_29 ?_
      exact ⟨rfl, _, rfl, fun i hi => h2 i (by omega), h3⟩
    · -- 8
      exfalso; omega
  | succ t ih =>
    intro k μ' h1 h2 h3
    have hk : k < 6 := by omega
    have ha := hr.2.2 k hk
    have hb := hf.2.2 k hk
    have hsk := (hs k hk).off h3 (by omega)
    refine E_iload_n dX6_copy_2 rfl ?_
    refine E_bipush dX6_copy_3 ?_
    refine E_icmp_ge 29 dX6_copy_5 (fun h5 => ?_) (fun h5 => ?_)
    · -- 29
      exfalso; omega
    · -- 8
      refine E_aload_n dX6_copy_8 rfl ?_
      refine GX6_11 hr.1 dX6_copy_9 ?_
      refine E_iload_n dX6_copy_12 rfl ?_
      refine H_aald4 hr.2.1 dX6_copy_13 (sh_at hk) ?_
      refine E_aload_n dX6_copy_14 rfl ?_
      refine GX6_11 hf.1 dX6_copy_15 ?_
      refine E_iload_n dX6_copy_18 rfl ?_
      refine H_aald4 hf.2.1 dX6_copy_19 (sh_at hk) ?_
      refine E_callVV dX6_copy_20 lkX6_18 (Hp_get ha.1) (c_copy ha hb (by omega) hsk (hok k hk).2.2.2.2.2.1) ?_
      rintro μ2 ⟨g1, g2⟩
      refine E_iinc dX6_copy_23 rfl ?_
      refine E_goto 2 dX6_copy_26 ?_
      refine ih (k + 1) μ2 (by omega) (fun i hi => ?_) (h3.tr (g2.wide (by omega) (by omega)))
      by_cases hik : i = k
      · subst hik; exact g1
      · exact (h2 i (by omega)).off g2 (by omega)
theorem c_shcopy {sh : Nat → Sp} (hr : isSh r) (hf : isSh f) (hd : f + 20 ≤ r ∨ r + 20 ≤ f) (hs : RepSh μ f sh) (hok : shOk sh) : Ctr G mX6_copy [.ref r, .ref f] (Hp μ) (V0 (fun μ' => RepSh μ' r sh ∧ Off r 20 μ μ')) := by
  refine Ctr.of ?_
  refine E_iconst dX6_copy_0 ?_
  refine E_istore_n dX6_copy_1 ?_
  exact shcopy_loop (μ := μ) hr hf hd hs hok 6 0 μ (by omega) (fun i hi => by omega) Off.rf
theorem sumF_rng {sh : Nat → Sp} (hok : shOk sh) : ∀ n : Nat, n ≤ 6 → 0 ≤ sumF sh n ∧ sumF sh n ≤ 6 * n
  | 0, _ => by simp [sumF]
  | n + 1, h => by
    have h1 := sumF_rng hok n (by omega)
    have h2 := (hok n (by omega)).2.2.2.2.2.1
    simp only [sumF]
    omega
theorem allF_loop {sh : Nat → Sp} (hr : isSh r) (hs : RepSh μ r sh) (hok : shOk sh) : ∀ (t k : Nat), k + t = 6 →
    E G mX6_allFibres (Zq G mX6_allFibres (R1 (vi (sumF sh 6)) (Hp μ))) 0 0 4 [.ref r, vi (sumF sh k), vi (k : Int)] [] (Hp μ) := by
  intro t
  induction t with
  | zero =>
    intro k h1
    obtain rfl : k = 6 := by omega
    refine E_iload_n dX6_allFibres_4 rfl ?_
    refine E_bipush dX6_allFibres_5 ?_
    refine E_icmp_ge 28 dX6_allFibres_7 (fun h7 => ?_) (fun h7 => ?_)
    · -- 28
      refine E_iload_n dX6_allFibres_28 rfl ?_
      refine E_iret dX6_allFibres_29 ?_
      exact ⟨rfl, rfl⟩
    · -- 10
      exfalso; omega
  | succ t ih =>
    intro k h1
    have hk : k < 6 := by omega
    have ha := hr.2.2 k hk
    have hsk := hs k hk
    refine E_iload_n dX6_allFibres_4 rfl ?_
    refine E_bipush dX6_allFibres_5 ?_
    refine E_icmp_ge 28 dX6_allFibres_7 (fun h7 => ?_) (fun h7 => ?_)
    · -- 28
      exfalso; omega
    · -- 10
      refine E_iload_n dX6_allFibres_10 rfl ?_
      refine E_aload_n dX6_allFibres_11 rfl ?_
      refine GX6_11 hr.1 dX6_allFibres_12 ?_
      refine E_iload_n dX6_allFibres_15 rfl ?_
      refine H_aald4 hr.2.1 dX6_allFibres_16 (sh_at hk) ?_
      refine GX6_22 ha.1 dX6_allFibres_17 ?_
      rw [hsk.2.2.2.1]
      refine E_iadd dX6_allFibres_20 ?_
      refine E_istore_n dX6_allFibres_21 ?_
      refine E_iinc dX6_allFibres_22 rfl ?_
      refine E_goto 4 dX6_allFibres_25 ?_
      exact ih (k + 1) (by omega)
theorem c_allFibres {sh : Nat → Sp} (hr : isSh r) (hs : RepSh μ r sh) (hok : shOk sh) : Ctr G mX6_allFibres [.ref r] (Hp μ) (R1 (vi (sumF sh 6)) (Hp μ)) := by
  refine Ctr.of ?_
  refine E_iconst dX6_allFibres_0 ?_
  refine E_istore_n dX6_allFibres_1 ?_
  refine E_iconst dX6_allFibres_2 ?_
  refine E_istore_n dX6_allFibres_3 ?_
  exact allF_loop hr hs hok 6 0 (by omega)
/-- the ring of shelves holds the latest ones -/
def RepH (μ : Mem) (past : List (Nat → Sp)) : Prop := ∃ nx : Nat, nx < 6 ∧ μ 21 1 = nx ∧ μ 21 2 = past.length ∧ past.length ≤ 6 ∧ ∀ (j : Nat) (sh : Nat → Sp), past[j]? = some sh → RepSh μ (23 + 20 * ((nx + 5 - j) % 6)) sh
theorem ring_at {k : Nat} (hk : k < 6) : [23, 43, 63, 83, 103, 123][((k : Nat) : Int).toNat]? = some (23 + 20 * k) := by
  rcases (show k = 0 ∨ k = 1 ∨ k = 2 ∨ k = 3 ∨ k = 4 ∨ k = 5 by omega) with rfl | rfl | rfl | rfl | rfl | rfl <;> rfl
theorem c_save {sh : Nat → Sp} {past : List (Nat → Sp)} (hs : RepSh μ 1 sh) (hok : shOk sh) (hH : RepH μ past) : Ctr G mX1_save [.ref 21, .ref 1] (Hp μ) (V0 (fun μ' => RepH μ' ((sh :: past).take 6) ∧ Off 21 122 μ μ')) := by
  refine Ctr.of ?_
  obtain ⟨nx, h1, h2, h3, h4, h5⟩ := hH
  have hq := isSh_h nx h1
  have hr := isSh_1
  refine E_aload_n dX1_save_0 rfl ?_
  refine GX1_11 sk_21 dX1_save_1 ?_
  refine E_aload_n dX1_save_4 rfl ?_
  refine GX1_18 sk_21 dX1_save_5 ?_
  rw [h2]
  refine H_aald3 sk_22 dX1_save_8 (ring_at h1) ?_
  refine E_aload_n dX1_save_9 rfl ?_
  refine E_callVV dX1_save_10 lkX1_22 (Hp_get hq.1) (c_shcopy hq isSh_1 (by omega) hs hok) ?_
  rintro μ2 ⟨g1, g2⟩
  have e1 : μ2 21 = μ 21 := g2 21 (by omega)
  refine E_aload_n dX1_save_13 rfl ?_
  refine E_aload_n dX1_save_14 rfl ?_
  refine GX1_18 sk_21 dX1_save_15 ?_
  rw [e1, h2]
  refine E_iconst dX1_save_18 ?_
  refine E_iadd dX1_save_19 ?_
  refine E_bipush dX1_save_20 ?_
  refine E_irem dX1_save_22 ?_
  refine PX1_18 sk_21 dX1_save_23 ?_
  refine E_aload_n dX1_save_26 rfl ?_
  refine E_aload_n dX1_save_27 rfl ?_
  refine GX1_26 sk_21 dX1_save_28 ?_
  rw [up_r, if_neg (by omega), e1, h3]
  refine E_iconst dX1_save_31 ?_
  refine E_iadd dX1_save_32 ?_
  refine E_bipush dX1_save_33 ?_
  refine E_callSR dX1_save_35 lkX1_29 (c_min (x := past.length + 1) (z := 6) (by omega) (by omega)) ?_
  refine PX1_26 sk_21 dX1_save_38 ?_
  refine E_vret dX1_save_41 ?_
  refine ⟨rfl, _, rfl, ⟨(nx + 1) % 6, by omega, ?_, ?_, by simp; omega, ?_⟩, ((g2.wide (by omega) (by omega)).up (by omega) (by omega)).up (by omega) (by omega)⟩
  · rw [up_r, if_neg (by omega), up_r, if_pos rfl, Int.tmod_eq_emod_of_nonneg (by omega)]; omega
  · rw [up_r, if_pos rfl]; simp; omega
  · intro j f hj
    have hj6 : j < 6 := by have := (List.getElem?_eq_some_iff.mp hj).1; simp at this; omega
    rw [List.getElem?_take_of_lt hj6] at hj
    have hof : Off 21 1 μ2 (up (up μ2 21 1 (((nx : Int) + 1).tmod 6)) 21 2 (min ((past.length : Int) + 1) 6)) := (Off.rf.up (by omega) (by omega)).up (by omega) (by omega)
    refine RepSh.off ?_ hof (by omega)
    match j, hj with
    | 0, hj =>
      simp at hj
      subst hj
      rw [show ((nx + 1) % 6 + 5 - 0) % 6 = nx by omega]; exact g1
    | j + 1, hj =>
      simp at hj
      have := h5 j f hj
      rw [show ((nx + 1) % 6 + 5 - (j + 1)) % 6 = (nx + 5 - j) % 6 by omega]
      exact this.off g2 (by omega)
theorem c_restore {sh sh0 : Nat → Sp} {past : List (Nat → Sp)} (hok : shOk sh) (hH : RepH μ (sh :: past)) : Ctr G mX1_restore [.ref 21, .ref 1] (Hp μ) (V0 (fun μ' => RepH μ' past ∧ RepSh μ' 1 sh ∧ Off 1 21 μ μ')) := by
  refine Ctr.of ?_
  obtain ⟨nx, h1, h2, h3, h4, h5⟩ := hH
  simp only [List.length_cons] at h3 h4
  have hq := isSh_h ((nx + 5) % 6) (by omega)
  have hr := isSh_1
  have hh := h5 0 sh rfl
  have em : ((nx : Int) + 6 - 1).tmod 6 = ((nx + 5) % 6 : Nat) := by rw [Int.tmod_eq_emod_of_nonneg (by omega)]; omega
  refine E_aload_n dX1_restore_0 rfl ?_
  refine E_aload_n dX1_restore_1 rfl ?_
  refine GX1_18 sk_21 dX1_restore_2 ?_
  rw [h2]
  refine E_bipush dX1_restore_5 ?_
  refine E_iadd dX1_restore_7 ?_
  refine E_iconst dX1_restore_8 ?_
  refine E_isub dX1_restore_9 ?_
  refine E_bipush dX1_restore_10 ?_
  refine E_irem dX1_restore_12 ?_
  rw [em]
  refine PX1_18 sk_21 dX1_restore_13 ?_
  refine E_aload_n dX1_restore_16 rfl ?_
  refine E_aload_n dX1_restore_17 rfl ?_
  refine GX1_26 sk_21 dX1_restore_18 ?_
  rw [up_r, if_neg (by omega), h3]
  refine E_iconst dX1_restore_21 ?_
  refine E_isub dX1_restore_22 ?_
  refine E_iconst dX1_restore_23 ?_
  refine E_callSR dX1_restore_24 lkX1_35 (c_max (x := ((past.length + 1 : Nat) : Int) - 1) (z := 0) (by omega) (by omega)) ?_
  refine PX1_26 sk_21 dX1_restore_27 ?_
  refine E_aload_n dX1_restore_30 rfl ?_
  refine E_aload_n dX1_restore_31 rfl ?_
  refine GX1_11 sk_21 dX1_restore_32 ?_
  refine E_aload_n dX1_restore_35 rfl ?_
  refine GX1_18 sk_21 dX1_restore_36 ?_
  rw [up_r, if_neg (by omega), up_r, if_pos rfl]
  refine H_aald3 sk_22 dX1_restore_39 (ring_at (k := (nx + 5) % 6) (by omega)) ?_
  have hof : Off 21 1 μ (up (up μ 21 1 (((nx + 5) % 6 : Nat) : Int)) 21 2 (max (((past.length + 1 : Nat) : Int) - 1) 0)) := (Off.rf.up (by omega) (by omega)).up (by omega) (by omega)
  refine E_callVV dX1_restore_40 lkX1_22 (Hp_get hr.1) (c_shcopy (sh := sh) isSh_1 hq (by omega) (hh.off hof (by omega)) hok) ?_
  rintro μ2 ⟨g1, g2⟩
  refine E_vret dX1_restore_43 ?_
  refine ⟨rfl, _, rfl, ⟨(nx + 5) % 6, by omega, ?_, ?_, by omega, ?_⟩, g1, (hof.wide (by omega) (by omega)).tr (g2.wide (by omega) (by omega))⟩
  · rw [g2 21 (by omega), up_r, if_neg (by omega), up_r, if_pos rfl]
  · rw [g2 21 (by omega), up_r, if_pos rfl]; omega
  · intro j f hj
    have hj6 : j < past.length := (List.getElem?_eq_some_iff.mp hj).1
    have := (h5 (j + 1) f (by simpa using hj)).off hof (by omega)
    rw [show ((nx + 5) % 6 + 5 - j) % 6 = (nx + 5 - (j + 1)) % 6 by omega]
    exact this.off g2 (by omega)
theorem c_reduce {x z : Int} (hx : -4000000000000000000 ≤ x ∧ x ≤ 4000000000000000000) (hz : -4000000000000000000 ≤ z ∧ z ≤ 4000000000000000000) : Ctr G mX0_reduce [.ref 156, vl x, vl z] (Hp μ) (R0 (Hp (up (up μ 156 0 (x / (Int.gcd x z : Int))) 156 1 (z / (Int.gcd x z : Int))))) := by
  refine Ctr.of ?_
  have hg : (Int.gcd x z : Int) ≤ 4000000000000000000 := by
    by_cases h : x = 0
    · subst h; rw [Int.gcd_zero_left]; omega
    · have := Int.gcd_le_natAbs_left z h; omega
  refine E_lload_n dX0_reduce_0 rfl ?_
  refine E_lload_n dX0_reduce_1 rfl ?_
  refine E_callSR dX0_reduce_2 lkX0_7 (c_gcd (x := x) (z := z) (by omega) (by omega)) ?_
  refine E_lstore dX0_reduce_5 ?_
  refine E_aload_n dX0_reduce_7 rfl ?_
  refine E_lload_n dX0_reduce_8 rfl ?_
  refine E_lload dX0_reduce_9 rfl ?_
  refine E_callSR dX0_reduce_11 lkX0_13 (c_quotient (x := x) (z := (Int.gcd x z : Int)) (by omega) (by omega)) ?_
  refine PX0_16 sk_156 dX0_reduce_14 ?_
  refine E_aload_n dX0_reduce_17 rfl ?_
  refine E_lload_n dX0_reduce_18 rfl ?_
  refine E_lload dX0_reduce_19 rfl ?_
  refine E_callSR dX0_reduce_21 lkX0_13 (c_quotient (x := z) (z := (Int.gcd x z : Int)) (by omega) (by omega)) ?_
  refine PX0_22 sk_156 dX0_reduce_24 ?_
  refine E_vret dX0_reduce_27 ?_
  exact ⟨rfl, rfl⟩
end SHELF
