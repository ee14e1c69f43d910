/-! FibredSpacesModel: lens -/
theorem neg_left {q P : Int} (h1 : 1 ≤ q) (h2 : q < P) : -q % P = P - q := by
  have e : -q % P = (P - q) % P := by
    apply Int.emod_eq_emod_iff_emod_sub_eq_zero.mpr
    rw [show -q - (P - q) = P * (-1) by omega]
    exact Int.mul_emod_right _ _
  rw [e]
  exact Int.emod_eq_of_lt (by omega) (by omega)
theorem lens_uni {a b c d x y x' y' : Int} (h : a * y - b * x = 1) (h' : a * y' - b * x' = 1) : (c * y + d * x) % ((a * d + b * c).natAbs : Int) = (c * y' + d * x') % ((a * d + b * c).natAbs : Int) := by
  have e1 : y - y' = b * (x * y' - x' * y) := by
    have t1 : y * (a * y' - b * x') = y := by rw [h', Int.mul_one]
    have t2 : y' * (a * y - b * x) = y' := by rw [h, Int.mul_one]
    have t3 : y * (a * y' - b * x') - y' * (a * y - b * x) = b * (x * y' - x' * y) := by grind
    rw [t1, t2] at t3; exact t3
  have e2 : x - x' = a * (x * y' - x' * y) := by
    have t1 : x * (a * y' - b * x') = x := by rw [h', Int.mul_one]
    have t2 : x' * (a * y - b * x) = x' := by rw [h, Int.mul_one]
    have t3 : x * (a * y' - b * x') - x' * (a * y - b * x) = a * (x * y' - x' * y) := by grind
    rw [t1, t2] at t3; exact t3
  apply Int.emod_eq_emod_iff_emod_sub_eq_zero.mpr
  apply Int.emod_eq_zero_of_dvd
  rw [Int.natAbs_dvd]
  refine ⟨x * y' - x' * y, ?_⟩
  have e3 : c * y + d * x - (c * y' + d * x') = c * (y - y') + d * (x - x') := by grind
  rw [e3, e1, e2]; grind
section MLENS
variable {G : GT} {μ : Mem} {M : HV} {σ : St}
theorem m_rest {x z : Int} (hx : -9223372036854775808 < x ∧ x < 9223372036854775808) (hz : 0 < z ∧ z < 4611686018427387904) : Ctr G mX11_rest [vl x, vl z] M (R1 (vl (x % z)) M) := by
  refine Ctr.of ?_
  rcases (show x < 0 ∨ 0 ≤ x by omega) with q | q
  · have t1 := td_r q hz.1
    refine E_lload_n dX11_rest_0 rfl ?_
    refine E_lload_n dX11_rest_1 rfl ?_
    refine E_lrem dX11_rest_2 ?_
    refine E_lstore dX11_rest_3 ?_
    refine E_lload dX11_rest_5 rfl ?_
    refine E_lconst0 dX11_rest_7 ?_
    refine E_lcmp_ge 19 dX11_rest_8 dX11_rest_9 (fun h8 => ?_) (fun h8 => ?_)
    · -- 19
      refine E_lload dX11_rest_19 rfl ?_
      refine E_lret dX11_rest_21 ?_
      refine ⟨?_, rfl⟩
      congr 2
      first | exact tm_neg2 q hz.1 (by omega) | exact (show x.tmod z = 0 by omega).trans (tm_neg1 hz.1 (by omega)).symm
    · -- 12
      refine E_lload dX11_rest_12 rfl ?_
      refine E_lload_n dX11_rest_14 rfl ?_
      refine E_ladd dX11_rest_15 ?_
      refine E_goto 21 dX11_rest_16 ?_
      refine E_lret dX11_rest_21 ?_
      refine ⟨?_, rfl⟩
      congr 2
      first | exact tm_neg2 q hz.1 (by omega) | exact (show x.tmod z = 0 by omega).trans (tm_neg1 hz.1 (by omega)).symm
  · have t1 := Int.tmod_nonneg z q
    have t2 := Int.tmod_lt_of_pos x hz.1
    refine E_lload_n dX11_rest_0 rfl ?_
    refine E_lload_n dX11_rest_1 rfl ?_
    refine E_lrem dX11_rest_2 ?_
    refine E_lstore dX11_rest_3 ?_
    refine E_lload dX11_rest_5 rfl ?_
    refine E_lconst0 dX11_rest_7 ?_
    refine E_lcmp_ge 19 dX11_rest_8 dX11_rest_9 (fun h8 => ?_) (fun h8 => ?_)
    · -- 19
      refine E_lload dX11_rest_19 rfl ?_
      refine E_lret dX11_rest_21 ?_
      refine ⟨?_, rfl⟩
      congr 2
      exact Int.tmod_eq_emod_of_nonneg q
    · -- 12
      exfalso; omega
theorem io_loop {x m : Int} (hm : 1 ≤ m ∧ m ≤ 1099511627776) : ∀ (t : Nat) (b s ob os : Int) (v1 v2 : Value), 0 ≤ s → s ≤ t → s ≤ m → 1 ≤ b → b ≤ m → Int.gcd b s = 1 → ExI x m b s ob os →
    E G mX11_inverseOver (Zq G mX11_inverseOver (R1 (vl (invI x m)) M)) 0 0 12 [vl x, .retAddr 0, vl m, .retAddr 0, vl b, .retAddr 0, vl s, .retAddr 0, vl ob, .retAddr 0, vl os, .retAddr 0, v1, .retAddr 0, v2, .retAddr 0] [] M := by
  intro t
  induction t with
  | zero =>
    intro b s ob os v1 v2 h1 h2 h2' h3 h4 h7 hE
    have h8 : s = 0 := by omega
    subst h8
    rw [Int.gcd_zero_right] at h7
    have h9 : b = 1 := by omega
    subst h9
    obtain ⟨-, e2, A, B, hA, hB, hAm, hBm, -, hsg⟩ := hE
    have ho : -1099511627776 ≤ ob ∧ ob ≤ 1099511627776 := by rcases hsg with ⟨rfl, rfl⟩ | ⟨rfl, rfl⟩ <;> omega
    refine E_lload dX11_inverseOver_12 rfl ?_
    refine E_lconst0 dX11_inverseOver_14 ?_
    refine E_lcmp_eq 65 dX11_inverseOver_15 dX11_inverseOver_16 (fun h15 => ?_) (fun h15 => ?_)
    · -- 65
      refine E_lload dX11_inverseOver_65 rfl ?_
      refine E_lload_n dX11_inverseOver_67 rfl ?_
      refine E_callSR dX11_inverseOver_68 lkX11_286 (m_rest (x := ob) (z := m) (by omega) (by omega)) ?_
      refine E_lret dX11_inverseOver_71 ?_
      exact ⟨by rw [invI_eq (Int.emod_nonneg _ (by omega)) (Int.emod_lt_of_pos _ (by omega)) (inv_mod e2)], rfl⟩
    · -- 19
      exact absurd rfl h15
  | succ t ih =>
    intro b s ob os v1 v2 h1 h2 h2' h3 h4 h7 hE
    by_cases hs0 : s = 0
    · exact ih b s ob os v1 v2 h1 (by omega) h2' h3 h4 h7 hE
    · have hr : b - b.tdiv s * s = b.tmod s := by rw [Int.tmod_def, Int.mul_comm]
      have hg := gcd_step (b := b) (s := s) (by omega) (by omega)
      have t1 := Int.tmod_nonneg s (show 0 ≤ b by omega)
      have t2 := Int.tmod_lt_of_pos b (show 0 < s by omega)
      refine E_lload dX11_inverseOver_12 rfl ?_
      refine E_lconst0 dX11_inverseOver_14 ?_
      refine E_lcmp_eq 65 dX11_inverseOver_15 dX11_inverseOver_16 (fun h15 => ?_) (fun h15 => ?_)
      · -- 65
        exfalso; omega
      · -- 19
        refine E_lload dX11_inverseOver_19 rfl ?_
        refine E_lload dX11_inverseOver_21 rfl ?_
        refine E_ldiv dX11_inverseOver_23 ?_
        refine E_lstore dX11_inverseOver_24 ?_
        refine E_lload dX11_inverseOver_26 rfl ?_
        refine E_lload dX11_inverseOver_28 rfl ?_
        refine E_lload dX11_inverseOver_30 rfl ?_
        refine E_lmul dX11_inverseOver_32 ?_
        refine E_lsub dX11_inverseOver_33 ?_
        refine E_lstore dX11_inverseOver_34 ?_
        refine E_lload dX11_inverseOver_36 rfl ?_
        refine E_lstore dX11_inverseOver_38 ?_
        refine E_lload dX11_inverseOver_40 rfl ?_
        refine E_lstore dX11_inverseOver_42 ?_
        refine E_lload dX11_inverseOver_44 rfl ?_
        refine E_lload dX11_inverseOver_46 rfl ?_
        refine E_lload dX11_inverseOver_48 rfl ?_
        refine E_lmul dX11_inverseOver_50 ?_
        refine E_lsub dX11_inverseOver_51 ?_
        refine E_lstore dX11_inverseOver_52 ?_
        refine E_lload dX11_inverseOver_54 rfl ?_
        refine E_lstore dX11_inverseOver_56 ?_
        refine E_lload dX11_inverseOver_58 rfl ?_
        refine E_lstore dX11_inverseOver_60 ?_
        refine E_goto 12 dX11_inverseOver_62 ?_
        exact ih s (b - b.tdiv s * s) os (ob - b.tdiv s * os) _ _ (by omega) (by omega) (by omega) (by omega) (by omega) (by rw [hr]; omega) (hE.step (by omega) (by omega))
theorem m_inverseOver {x m : Int} (hx : 0 ≤ x ∧ x < m) (hm : 1 ≤ m ∧ m ≤ 1099511627776) (hg : Int.gcd x m = 1) : Ctr G mX11_inverseOver [vl x, vl m] M (R1 (vl (invI x m)) M) := by
  refine Ctr.of ?_
  refine E_lload_n dX11_inverseOver_0 rfl ?_
  refine E_lstore dX11_inverseOver_1 ?_
  refine E_lload_n dX11_inverseOver_3 rfl ?_
  refine E_lstore dX11_inverseOver_4 ?_
  refine E_lconst0 dX11_inverseOver_6 ?_
  refine E_lstore dX11_inverseOver_7 ?_
  refine E_lconst1 dX11_inverseOver_9 ?_
  refine E_lstore dX11_inverseOver_10 ?_
  refine io_loop hm x.toNat m x 0 1 _ _ (by omega) (by omega) (by omega) (by omega) (by omega) (by rw [Int.gcd_comm]; exact hg) ⟨?_, ?_, 0, 1, by omega, by omega, by omega, by omega, by omega, Or.inl ⟨rfl, rfl⟩⟩
  · rw [Int.one_mul, Int.sub_self]; exact Int.zero_emod _
  · rw [Int.zero_mul]; rw [show 0 - m = m * (-1) by omega]; exact Int.mul_emod_right _ _
def OffL (μ μ' : Mem) : Prop := (∀ q : Nat, q ≠ 203 → μ' q = μ q) ∧ ∀ j : Int, j ≠ 26 → j ≠ 27 → μ' 203 j = μ 203 j
theorem OffL.rf : OffL μ μ := ⟨fun _ _ => rfl, fun _ _ _ => rfl⟩
theorem OffL.tr {μ1 μ2 : Mem} (h : OffL μ μ1) (h' : OffL μ1 μ2) : OffL μ μ2 := ⟨fun q a => by rw [h'.1 q a, h.1 q a], fun j a b => by rw [h'.2 j a b, h.2 j a b]⟩
theorem OffL.fld {μ1 : Mem} {j x : Int} (h : OffL μ μ1) (hj : j = 26 ∨ j = 27) : OffL μ (up μ1 203 j x) := ⟨fun q a => by rw [up_ne q a]; exact h.1 q a, fun i a b => by rw [up_r, if_neg (by omega)]; exact h.2 i a b⟩
theorem OffL.w {μ' : Mem} (h : OffL μ μ') : OffW μ μ' := ⟨fun q a _ _ _ _ _ _ _ => h.1 q a, fun j hj => h.2 j (by omega) (by omega)⟩
theorem OffL.lo {μ' : Mem} (h : OffL μ μ') : ∀ q : Nat, q < 203 → μ' q = μ q := fun q hq => h.1 q (by omega)
theorem m_chooseLeast {q P : Int} (hP : μ 203 26 = P) (hQ : μ 203 27 = q) (hp : 2 ≤ P ∧ P ≤ 100000000) (hq : 0 ≤ q ∧ q < P) (hg : Int.gcd q P = 1) : Ctr G mX11_chooseLeast [.ref 203] (Hp μ) (V0 (fun μ' => μ' 203 26 = P ∧ μ' 203 27 = lensM q P ∧ OffL μ μ')) := by
  refine Ctr.of ?_
  have k1 := invI_rng (x := q) (m := P) (by omega)
  have k0 := invI_spec (x := q) (m := P) (by omega) hg
  have q1 : 1 ≤ q := by
    rcases (show q = 0 ∨ 1 ≤ q by omega) with h | h
    · rw [h, Int.gcd_zero_left] at hg; omega
    · exact h
  have b1 : 1 ≤ invI q P := by
    rcases (show invI q P = 0 ∨ 1 ≤ invI q P by omega) with h | h
    · rw [h, Int.zero_mul, show (0 : Int) - 1 = -1 by omega, neg_left (by omega) (by omega)] at k0; omega
    · exact h
  have e1 := neg_left q1 hq.2
  have e2 := neg_left b1 k1.2
  have eM : lensM q P = min (min q (P - q)) (min (invI q P) (P - invI q P)) := by unfold lensM; rw [e1, e2]
  have hio := m_inverseOver (G := G) (M := Hp μ) (x := q) (m := P) (by omega) (by omega) hg
  generalize invI q P = z at k1 b1 eM hio
  refine E_aload_n dX11_chooseLeast_0 rfl ?_
  refine GX11_292 sk_203 dX11_chooseLeast_1 ?_
  rw [hQ]
  refine E_lstore_n dX11_chooseLeast_4 ?_
  refine E_lload_n dX11_chooseLeast_5 rfl ?_
  refine E_aload_n dX11_chooseLeast_6 rfl ?_
  refine GX11_289 sk_203 dX11_chooseLeast_7 ?_
  rw [hP]
  refine E_callSR dX11_chooseLeast_10 lkX11_295 (hio) ?_
  refine E_lstore_n dX11_chooseLeast_13 ?_
  refine E_aload_n dX11_chooseLeast_14 rfl ?_
  refine E_lload_n dX11_chooseLeast_15 rfl ?_
  refine E_aload_n dX11_chooseLeast_16 rfl ?_
  refine GX11_289 sk_203 dX11_chooseLeast_17 ?_
  rw [hP]
  refine E_lload_n dX11_chooseLeast_20 rfl ?_
  refine E_lsub dX11_chooseLeast_21 ?_
  refine E_lcmp_ge 30 dX11_chooseLeast_22 dX11_chooseLeast_23 (fun h22 => ?_) (fun h22 => ?_)
  · -- 30
    refine E_aload_n dX11_chooseLeast_30 rfl ?_
    refine GX11_289 sk_203 dX11_chooseLeast_31 ?_
    rw [hP]
    refine E_lload_n dX11_chooseLeast_34 rfl ?_
    refine E_lsub dX11_chooseLeast_35 ?_
    refine PX11_292 sk_203 dX11_chooseLeast_36 ?_
    refine E_aload_n dX11_chooseLeast_39 rfl ?_
    refine E_lload_n dX11_chooseLeast_40 rfl ?_
    refine E_aload_n dX11_chooseLeast_41 rfl ?_
    refine GX11_292 sk_203 dX11_chooseLeast_42 ?_
    rw [up_r, if_pos rfl]
    refine E_lcmp_ge 53 dX11_chooseLeast_45 dX11_chooseLeast_46 (fun h45 => ?_) (fun h45 => ?_)
    · -- 53
      refine E_aload_n dX11_chooseLeast_53 rfl ?_
      refine GX11_292 sk_203 dX11_chooseLeast_54 ?_
      try rw [up_r, if_pos rfl]
      refine PX11_292 sk_203 dX11_chooseLeast_57 ?_
      refine E_aload_n dX11_chooseLeast_60 rfl ?_
      refine E_aload_n dX11_chooseLeast_61 rfl ?_
      refine GX11_289 sk_203 dX11_chooseLeast_62 ?_
      rw [up_r, if_neg (by omega), up_r, if_neg (by omega), hP]
      refine E_lload_n dX11_chooseLeast_65 rfl ?_
      refine E_lsub dX11_chooseLeast_66 ?_
      refine E_aload_n dX11_chooseLeast_67 rfl ?_
      refine GX11_292 sk_203 dX11_chooseLeast_68 ?_
      rw [up_r, if_pos rfl]
      refine E_lcmp_ge 84 dX11_chooseLeast_71 dX11_chooseLeast_72 (fun h71 => ?_) (fun h71 => ?_)
      · -- 84
        refine E_aload_n dX11_chooseLeast_84 rfl ?_
        refine GX11_292 sk_203 dX11_chooseLeast_85 ?_
        try rw [up_r, if_pos rfl]
        refine PX11_292 sk_203 dX11_chooseLeast_88 ?_
        refine E_vret dX11_chooseLeast_91 ?_
        refine ⟨rfl, _, rfl, by rw [up_r, if_neg (by omega), up_r, if_neg (by omega), up_r, if_neg (by omega), hP], ?_, ((OffL.rf.fld (Or.inr rfl)).fld (Or.inr rfl)).fld (Or.inr rfl)⟩
        rw [up_r, if_pos rfl, eM]
        omega
      · -- 75
        refine E_aload_n dX11_chooseLeast_75 rfl ?_
        refine GX11_289 sk_203 dX11_chooseLeast_76 ?_
        rw [up_r, if_neg (by omega), up_r, if_neg (by omega), hP]
        refine E_lload_n dX11_chooseLeast_79 rfl ?_
        refine E_lsub dX11_chooseLeast_80 ?_
        refine E_goto 88 dX11_chooseLeast_81 ?_
        try rw [up_r, if_pos rfl]
        refine PX11_292 sk_203 dX11_chooseLeast_88 ?_
        refine E_vret dX11_chooseLeast_91 ?_
        refine ⟨rfl, _, rfl, by rw [up_r, if_neg (by omega), up_r, if_neg (by omega), up_r, if_neg (by omega), hP], ?_, ((OffL.rf.fld (Or.inr rfl)).fld (Or.inr rfl)).fld (Or.inr rfl)⟩
        rw [up_r, if_pos rfl, eM]
        omega
    · -- 49
      refine E_lload_n dX11_chooseLeast_49 rfl ?_
      refine E_goto 57 dX11_chooseLeast_50 ?_
      try rw [up_r, if_pos rfl]
      refine PX11_292 sk_203 dX11_chooseLeast_57 ?_
      refine E_aload_n dX11_chooseLeast_60 rfl ?_
      refine E_aload_n dX11_chooseLeast_61 rfl ?_
      refine GX11_289 sk_203 dX11_chooseLeast_62 ?_
      rw [up_r, if_neg (by omega), up_r, if_neg (by omega), hP]
      refine E_lload_n dX11_chooseLeast_65 rfl ?_
      refine E_lsub dX11_chooseLeast_66 ?_
      refine E_aload_n dX11_chooseLeast_67 rfl ?_
      refine GX11_292 sk_203 dX11_chooseLeast_68 ?_
      rw [up_r, if_pos rfl]
      refine E_lcmp_ge 84 dX11_chooseLeast_71 dX11_chooseLeast_72 (fun h71 => ?_) (fun h71 => ?_)
      · -- 84
        refine E_aload_n dX11_chooseLeast_84 rfl ?_
        refine GX11_292 sk_203 dX11_chooseLeast_85 ?_
        try rw [up_r, if_pos rfl]
        refine PX11_292 sk_203 dX11_chooseLeast_88 ?_
        refine E_vret dX11_chooseLeast_91 ?_
        refine ⟨rfl, _, rfl, by rw [up_r, if_neg (by omega), up_r, if_neg (by omega), up_r, if_neg (by omega), hP], ?_, ((OffL.rf.fld (Or.inr rfl)).fld (Or.inr rfl)).fld (Or.inr rfl)⟩
        rw [up_r, if_pos rfl, eM]
        omega
      · -- 75
        refine E_aload_n dX11_chooseLeast_75 rfl ?_
        refine GX11_289 sk_203 dX11_chooseLeast_76 ?_
        rw [up_r, if_neg (by omega), up_r, if_neg (by omega), hP]
        refine E_lload_n dX11_chooseLeast_79 rfl ?_
        refine E_lsub dX11_chooseLeast_80 ?_
        refine E_goto 88 dX11_chooseLeast_81 ?_
        try rw [up_r, if_pos rfl]
        refine PX11_292 sk_203 dX11_chooseLeast_88 ?_
        refine E_vret dX11_chooseLeast_91 ?_
        refine ⟨rfl, _, rfl, by rw [up_r, if_neg (by omega), up_r, if_neg (by omega), up_r, if_neg (by omega), hP], ?_, ((OffL.rf.fld (Or.inr rfl)).fld (Or.inr rfl)).fld (Or.inr rfl)⟩
        rw [up_r, if_pos rfl, eM]
        omega
  · -- 26
    refine E_lload_n dX11_chooseLeast_26 rfl ?_
    refine E_goto 36 dX11_chooseLeast_27 ?_
    refine PX11_292 sk_203 dX11_chooseLeast_36 ?_
    refine E_aload_n dX11_chooseLeast_39 rfl ?_
    refine E_lload_n dX11_chooseLeast_40 rfl ?_
    refine E_aload_n dX11_chooseLeast_41 rfl ?_
    refine GX11_292 sk_203 dX11_chooseLeast_42 ?_
    rw [up_r, if_pos rfl]
    refine E_lcmp_ge 53 dX11_chooseLeast_45 dX11_chooseLeast_46 (fun h45 => ?_) (fun h45 => ?_)
    · -- 53
      refine E_aload_n dX11_chooseLeast_53 rfl ?_
      refine GX11_292 sk_203 dX11_chooseLeast_54 ?_
      try rw [up_r, if_pos rfl]
      refine PX11_292 sk_203 dX11_chooseLeast_57 ?_
      refine E_aload_n dX11_chooseLeast_60 rfl ?_
      refine E_aload_n dX11_chooseLeast_61 rfl ?_
      refine GX11_289 sk_203 dX11_chooseLeast_62 ?_
      rw [up_r, if_neg (by omega), up_r, if_neg (by omega), hP]
      refine E_lload_n dX11_chooseLeast_65 rfl ?_
      refine E_lsub dX11_chooseLeast_66 ?_
      refine E_aload_n dX11_chooseLeast_67 rfl ?_
      refine GX11_292 sk_203 dX11_chooseLeast_68 ?_
      rw [up_r, if_pos rfl]
      refine E_lcmp_ge 84 dX11_chooseLeast_71 dX11_chooseLeast_72 (fun h71 => ?_) (fun h71 => ?_)
      · -- 84
        refine E_aload_n dX11_chooseLeast_84 rfl ?_
        refine GX11_292 sk_203 dX11_chooseLeast_85 ?_
        try rw [up_r, if_pos rfl]
        refine PX11_292 sk_203 dX11_chooseLeast_88 ?_
        refine E_vret dX11_chooseLeast_91 ?_
        refine ⟨rfl, _, rfl, by rw [up_r, if_neg (by omega), up_r, if_neg (by omega), up_r, if_neg (by omega), hP], ?_, ((OffL.rf.fld (Or.inr rfl)).fld (Or.inr rfl)).fld (Or.inr rfl)⟩
        rw [up_r, if_pos rfl, eM]
        omega
      · -- 75
        refine E_aload_n dX11_chooseLeast_75 rfl ?_
        refine GX11_289 sk_203 dX11_chooseLeast_76 ?_
        rw [up_r, if_neg (by omega), up_r, if_neg (by omega), hP]
        refine E_lload_n dX11_chooseLeast_79 rfl ?_
        refine E_lsub dX11_chooseLeast_80 ?_
        refine E_goto 88 dX11_chooseLeast_81 ?_
        try rw [up_r, if_pos rfl]
        refine PX11_292 sk_203 dX11_chooseLeast_88 ?_
        refine E_vret dX11_chooseLeast_91 ?_
        refine ⟨rfl, _, rfl, by rw [up_r, if_neg (by omega), up_r, if_neg (by omega), up_r, if_neg (by omega), hP], ?_, ((OffL.rf.fld (Or.inr rfl)).fld (Or.inr rfl)).fld (Or.inr rfl)⟩
        rw [up_r, if_pos rfl, eM]
        omega
    · -- 49
      refine E_lload_n dX11_chooseLeast_49 rfl ?_
      refine E_goto 57 dX11_chooseLeast_50 ?_
      try rw [up_r, if_pos rfl]
      refine PX11_292 sk_203 dX11_chooseLeast_57 ?_
      refine E_aload_n dX11_chooseLeast_60 rfl ?_
      refine E_aload_n dX11_chooseLeast_61 rfl ?_
      refine GX11_289 sk_203 dX11_chooseLeast_62 ?_
      rw [up_r, if_neg (by omega), up_r, if_neg (by omega), hP]
      refine E_lload_n dX11_chooseLeast_65 rfl ?_
      refine E_lsub dX11_chooseLeast_66 ?_
      refine E_aload_n dX11_chooseLeast_67 rfl ?_
      refine GX11_292 sk_203 dX11_chooseLeast_68 ?_
      rw [up_r, if_pos rfl]
      refine E_lcmp_ge 84 dX11_chooseLeast_71 dX11_chooseLeast_72 (fun h71 => ?_) (fun h71 => ?_)
      · -- 84
        refine E_aload_n dX11_chooseLeast_84 rfl ?_
        refine GX11_292 sk_203 dX11_chooseLeast_85 ?_
        try rw [up_r, if_pos rfl]
        refine PX11_292 sk_203 dX11_chooseLeast_88 ?_
        refine E_vret dX11_chooseLeast_91 ?_
        refine ⟨rfl, _, rfl, by rw [up_r, if_neg (by omega), up_r, if_neg (by omega), up_r, if_neg (by omega), hP], ?_, ((OffL.rf.fld (Or.inr rfl)).fld (Or.inr rfl)).fld (Or.inr rfl)⟩
        rw [up_r, if_pos rfl, eM]
        omega
      · -- 75
        refine E_aload_n dX11_chooseLeast_75 rfl ?_
        refine GX11_289 sk_203 dX11_chooseLeast_76 ?_
        rw [up_r, if_neg (by omega), up_r, if_neg (by omega), hP]
        refine E_lload_n dX11_chooseLeast_79 rfl ?_
        refine E_lsub dX11_chooseLeast_80 ?_
        refine E_goto 88 dX11_chooseLeast_81 ?_
        try rw [up_r, if_pos rfl]
        refine PX11_292 sk_203 dX11_chooseLeast_88 ?_
        refine E_vret dX11_chooseLeast_91 ?_
        refine ⟨rfl, _, rfl, by rw [up_r, if_neg (by omega), up_r, if_neg (by omega), up_r, if_neg (by omega), hP], ?_, ((OffL.rf.fld (Or.inr rfl)).fld (Or.inr rfl)).fld (Or.inr rfl)⟩
        rw [up_r, if_pos rfl, eM]
        omega
def FlQ (μ : Mem) (a b c d : Int) : Mem → Prop := fun μ' => μ' 203 26 = (a * d + b * c).natAbs ∧ μ' 203 27 = lensQ4 a b c d ∧ OffL μ μ'
theorem fl_end {a b c d x y : Int} {i : Int} {w1 w2 w3 w4 : Value} (hb : -31000 ≤ b ∧ b ≤ 31000) (ha : 1 ≤ a ∧ a ≤ 30) (hc : 1 ≤ c ∧ c ≤ 30) (hd : 0 ≤ d ∧ d ≤ 30) (hab : Int.gcd b a = 1) (hcd : Int.gcd c d = 1) (hxy : a * y - b * x = 1) (hy : -1000000 ≤ y ∧ y ≤ 1000000) (hx : -1000000000 ≤ x ∧ x ≤ 1000000000) {μ1 : Mem} (h26 : μ1 203 26 = (a * d + b * c).natAbs) (hP : (2 : Int) ≤ (a * d + b * c).natAbs) (hP2 : ((a * d + b * c).natAbs : Int) ≤ 1000000) (ho : OffL μ μ1) :
    E G mX11_findLens (Zq G mX11_findLens (V0 (FlQ μ a b c d))) 0 0 212 [.ref 203, vi i, w1, w2, w3, w4, vl c, .retAddr 0, vl d, .retAddr 0, vl y, .retAddr 0, vl x, .retAddr 0] [] (Hp μ1) := by
  obtain ⟨k1, k2, k3⟩ := lens_xy ha.1 hab
  have eq : (c * y + d * x) % ((a * d + b * c).natAbs : Int) = lensF a b c d ((a * d + b * c).natAbs : Int) := lens_uni hxy k1
  have k4 := lens_cop hxy hcd
  have b5 : -30000000 ≤ c * y ∧ c * y ≤ 30000000 := by
    have t1 := Int.mul_le_mul_of_nonneg_left hy.1 (show 0 ≤ c by omega)
    have t2 := Int.mul_le_mul_of_nonneg_left hy.2 (show 0 ≤ c by omega)
    omega
  have b6 : -30000000000 ≤ d * x ∧ d * x ≤ 30000000000 := by
    have t1 := Int.mul_le_mul_of_nonneg_left hx.1 hd.1
    have t2 := Int.mul_le_mul_of_nonneg_left hx.2 hd.1
    omega
  have r1 := Int.emod_nonneg (c * y + d * x) (show ((a * d + b * c).natAbs : Int) ≠ 0 by omega)
  have r2 := Int.emod_lt_of_pos (c * y + d * x) (show 0 < ((a * d + b * c).natAbs : Int) by omega)
  have r3 : Int.gcd ((c * y + d * x) % ((a * d + b * c).natAbs : Int)) ((a * d + b * c).natAbs : Int) = 1 := by rw [gcd_em, gcd_nat]; exact k4
  have eQ : lensQ4 a b c d = lensM ((c * y + d * x) % ((a * d + b * c).natAbs : Int)) ((a * d + b * c).natAbs : Int) := by
    unfold lensQ4
    rw [if_neg (by omega), eq]
  unfold FlQ
  generalize hPP : ((a * d + b * c).natAbs : Int) = P at *
  refine E_aload_n dX11_findLens_212 rfl ?_
  refine E_lload dX11_findLens_213 rfl ?_
  refine E_lload dX11_findLens_215 rfl ?_
  refine E_lmul dX11_findLens_217 ?_
  refine E_lload dX11_findLens_218 rfl ?_
  refine E_lload dX11_findLens_220 rfl ?_
  refine E_lmul dX11_findLens_222 ?_
  refine E_ladd dX11_findLens_223 ?_
  refine E_aload_n dX11_findLens_224 rfl ?_
  refine GX11_289 sk_203 dX11_findLens_225 ?_
  rw [h26]
  refine E_callSR dX11_findLens_228 lkX11_286 (m_rest (x := c * y + d * x) (z := P) (by omega) (by omega)) ?_
  refine PX11_292 sk_203 dX11_findLens_231 ?_
  refine E_aload_n dX11_findLens_234 rfl ?_
  refine E_callVV dX11_findLens_235 lkX11_298 (Hp_get sk_203) (m_chooseLeast (q := (c * y + d * x) % P) (P := P) (by rw [up_r, if_neg (by omega)]; exact h26) (by rw [up_r, if_pos rfl]) (by omega) ⟨r1, r2⟩ r3) ?_
  rintro μ2 ⟨g1, g2, g3⟩
  refine E_vret dX11_findLens_238 ?_
  exact ⟨rfl, _, rfl, g1, by rw [g2, eQ], (ho.fld (Or.inr rfl)).tr g3⟩
theorem fl_tail {a b c d : Int} {i : Int} (ha : 1 ≤ a ∧ a ≤ 30) (hb : -31000 ≤ b ∧ b ≤ 31000) (hc : 1 ≤ c ∧ c ≤ 30) (hd : 0 ≤ d ∧ d ≤ 30) (hab : Int.gcd b a = 1) (hcd : Int.gcd c d = 1) :
    E G mX11_findLens (Zq G mX11_findLens (V0 (FlQ μ a b c d))) 0 0 89 [.ref 203, vi i, vl a, .retAddr 0, vl b, .retAddr 0, vl c, .retAddr 0, vl d, .retAddr 0, .retAddr 0, .retAddr 0, .retAddr 0, .retAddr 0] [] (Hp μ) := by
  have b1 : 0 ≤ a * d ∧ a * d ≤ 900 := by
    have t1 := Int.mul_nonneg (show 0 ≤ a by omega) hd.1
    have t2 := Int.mul_le_mul ha.2 hd.2 hd.1 (by decide)
    omega
  have b2 : -930000 ≤ b * c ∧ b * c ≤ 930000 := by
    have t1 := Int.mul_le_mul_of_nonneg_right hb.1 (show 0 ≤ c by omega)
    have t2 := Int.mul_le_mul_of_nonneg_right hb.2 (show 0 ≤ c by omega)
    omega
  have hP2 : ((a * d + b * c).natAbs : Int) ≤ 1000000 := by omega
  have hQ0 : ((a * d + b * c).natAbs : Int) ≤ 1 → lensQ4 a b c d = 0 := fun h => if_pos h
  have fin : ∀ (P : Int) (μ1 : Mem), P = (a * d + b * c).natAbs → μ1 203 26 = P → OffL μ μ1 → E G mX11_findLens (Zq G mX11_findLens (V0 (FlQ μ a b c d))) 0 0 128 [.ref 203, vi i, vl a, .retAddr 0, vl b, .retAddr 0, vl c, .retAddr 0, vl d, .retAddr 0, .retAddr 0, .retAddr 0, .retAddr 0, .retAddr 0] [] (Hp μ1) := by
    intro P μ1 hPe h26 ho
    have ho' : OffL μ (up μ1 203 27 0) := ho.fld (Or.inr rfl)
    have h26' : (up μ1 203 27 0) 203 26 = (a * d + b * c).natAbs := by rw [up_r, if_neg (by omega), h26, hPe]
    by_cases a1 : a = 1
    · subst a1
      refine E_aload_n dX11_findLens_128 rfl ?_
      refine E_lconst0 dX11_findLens_129 ?_
      refine PX11_292 sk_203 dX11_findLens_130 ?_
      refine E_aload_n dX11_findLens_133 rfl ?_
      refine GX11_289 sk_203 dX11_findLens_134 ?_
      rw [h26', ← hPe]
      refine E_lconst1 dX11_findLens_137 ?_
      refine E_lcmp_le 238 dX11_findLens_138 dX11_findLens_139 (fun h138 => ?_) (fun h138 => ?_)
      · -- 238
        refine E_vret dX11_findLens_238 ?_
        exact ⟨rfl, _, rfl, h26', by rw [up_r, if_pos rfl]; exact (hQ0 (by omega)).symm, ho'⟩
      · -- 142
        refine E_lload_n dX11_findLens_142 rfl ?_
        refine E_lconst1 dX11_findLens_143 ?_
        refine E_lcmp_ne 152 dX11_findLens_144 dX11_findLens_145 (fun h144 => ?_) (fun h144 => ?_)
        · -- 152
          exact absurd rfl h144
        · -- 148
          refine E_lconst1 dX11_findLens_148 ?_
          refine E_goto 189 dX11_findLens_149 ?_
          refine E_lstore dX11_findLens_189 ?_
          refine E_lload_n dX11_findLens_191 rfl ?_
          refine E_lconst1 dX11_findLens_192 ?_
          refine E_lcmp_ne 201 dX11_findLens_193 dX11_findLens_194 (fun h193 => ?_) (fun h193 => ?_)
          · -- 201
            exact absurd rfl h193
          · -- 197
            refine E_lconst0 dX11_findLens_197 ?_
            refine E_goto 210 dX11_findLens_198 ?_
            refine E_lstore dX11_findLens_210 ?_
            exact fl_end (x := 0) (y := 1) hb ha hc hd hab hcd (by omega) (by omega) (by omega) h26' (by omega) hP2 ho'
    · have hb0 : b ≠ 0 := fun h => by rw [h, Int.gcd_zero_left] at hab; omega
      have key : ∀ B : Int, (B = b ∨ B = -b) → 0 < B → Ctr G mX11_rest [vl a, vl B] (Hp (up μ1 203 27 0)) (R1 (vl (a % B)) (Hp (up μ1 203 27 0))) ∧ Ctr G mX11_inverseOver [vl (a % B), vl B] (Hp (up μ1 203 27 0)) (R1 (vl (invI (a % B) B)) (Hp (up μ1 203 27 0))) ∧ 0 ≤ invI (a % B) B ∧ invI (a % B) B < B ∧ b ∣ a * invI (a % B) B - 1 := by
        intro B hB hB0
        have hg : Int.gcd (a % B) B = 1 := by
          rw [gcd_em, Int.gcd_comm]
          rcases hB with rfl | rfl
          · exact hab
          · rw [Int.neg_gcd]; exact hab
        have i1 := invI_rng (x := a % B) (m := B) hB0
        refine ⟨m_rest (by omega) (by omega), m_inverseOver ⟨Int.emod_nonneg _ (by omega), Int.emod_lt_of_pos _ hB0⟩ (by omega) hg, i1.1, i1.2, ?_⟩
        have i2 := Int.dvd_of_emod_eq_zero (invI_spec (x := a % B) (m := B) (by omega) hg)
        have i3 : B ∣ a * invI (a % B) B - 1 := by
          have e := Int.mul_ediv_add_emod a B
          have e2 : a * invI (a % B) B - 1 = (invI (a % B) B * (a % B) - 1) + B * (a / B * invI (a % B) B) := by
            conv => lhs; rw [← e]
            grind
          rw [e2]
          exact Int.dvd_add i2 (Int.dvd_mul_right ..)
        rcases hB with rfl | rfl
        · exact i3
        · exact Int.neg_dvd.mp i3
      have fin2 : ∀ y : Int, 0 ≤ y → y < 31000 → b ∣ a * y - 1 → (2 : Int) ≤ (a * d + b * c).natAbs → E G mX11_findLens (Zq G mX11_findLens (V0 (FlQ μ a b c d))) 0 0 189 [.ref 203, vi i, vl a, .retAddr 0, vl b, .retAddr 0, vl c, .retAddr 0, vl d, .retAddr 0, .retAddr 0, .retAddr 0, .retAddr 0, .retAddr 0] [vl y] (Hp (up μ1 203 27 0)) := by
        intro y y0 y1 hdv hP
        have hq : b * (a * y - 1).tdiv b = a * y - 1 := Int.mul_tdiv_cancel' hdv
        have m1 := Int.mul_le_mul ha.2 (show y ≤ 31000 by omega) y0 (by decide)
        have m2 := Int.mul_nonneg (show 0 ≤ a by omega) y0
        have m3 : ((a * y - 1).tdiv b).natAbs ≤ (a * y - 1).natAbs := by
          rw [Int.natAbs_tdiv]; exact Nat.div_le_self _ _
        generalize hxx : (a * y - 1).tdiv b = x at hq m3
        refine E_lstore dX11_findLens_189 ?_
        refine E_lload_n dX11_findLens_191 rfl ?_
        refine E_lconst1 dX11_findLens_192 ?_
        refine E_lcmp_ne 201 dX11_findLens_193 dX11_findLens_194 (fun h193 => ?_) (fun h193 => ?_)
        · -- 201
          refine E_lload_n dX11_findLens_201 rfl ?_
          refine E_lload dX11_findLens_202 rfl ?_
          refine E_lmul dX11_findLens_204 ?_
          refine E_lconst1 dX11_findLens_205 ?_
          refine E_lsub dX11_findLens_206 ?_
          refine E_lload dX11_findLens_207 rfl ?_
          refine E_ldiv dX11_findLens_209 ?_
          rw [hxx]
          refine E_lstore dX11_findLens_210 ?_
          exact fl_end (x := x) (y := y) hb ha hc hd hab hcd (by omega) (by omega) (by omega) h26' hP hP2 ho'
        · -- 197
          exact absurd h193 a1
      refine E_aload_n dX11_findLens_128 rfl ?_
      refine E_lconst0 dX11_findLens_129 ?_
      refine PX11_292 sk_203 dX11_findLens_130 ?_
      refine E_aload_n dX11_findLens_133 rfl ?_
      refine GX11_289 sk_203 dX11_findLens_134 ?_
      rw [h26', ← hPe]
      refine E_lconst1 dX11_findLens_137 ?_
      refine E_lcmp_le 238 dX11_findLens_138 dX11_findLens_139 (fun h138 => ?_) (fun h138 => ?_)
      · -- 238
        refine E_vret dX11_findLens_238 ?_
        exact ⟨rfl, _, rfl, h26', by rw [up_r, if_pos rfl]; exact (hQ0 (by omega)).symm, ho'⟩
      · -- 142
        refine E_lload_n dX11_findLens_142 rfl ?_
        refine E_lconst1 dX11_findLens_143 ?_
        refine E_lcmp_ne 152 dX11_findLens_144 dX11_findLens_145 (fun h144 => ?_) (fun h144 => ?_)
        · -- 152
          refine E_lload_n dX11_findLens_152 rfl ?_
          refine E_lload dX11_findLens_153 rfl ?_
          refine E_lconst0 dX11_findLens_155 ?_
          refine E_lcmp_ge 166 dX11_findLens_156 dX11_findLens_157 (fun h156 => ?_) (fun h156 => ?_)
          · -- 166
            obtain ⟨c1, c2, c3, c4, c5⟩ := key b (Or.inl rfl) (by omega)
            refine E_lload dX11_findLens_166 rfl ?_
            refine E_callSR dX11_findLens_168 lkX11_286 (c1) ?_
            refine E_lload dX11_findLens_171 rfl ?_
            refine E_lconst0 dX11_findLens_173 ?_
            refine E_lcmp_ge 184 dX11_findLens_174 dX11_findLens_175 (fun h174 => ?_) (fun h174 => ?_)
            · -- 184
              refine E_lload dX11_findLens_184 rfl ?_
              first | (exfalso; omega) | exact E_callSR dX11_findLens_186 lkX11_295 c2 (fin2 _ c3 (by omega) c5 (by omega))
            · -- 178
              refine E_lload dX11_findLens_178 rfl ?_
              refine E_lneg dX11_findLens_180 ?_
              refine E_goto 186 dX11_findLens_181 ?_
              first | (exfalso; omega) | exact E_callSR dX11_findLens_186 lkX11_295 c2 (fin2 _ c3 (by omega) c5 (by omega))
          · -- 160
            obtain ⟨c1, c2, c3, c4, c5⟩ := key (-b) (Or.inr rfl) (by omega)
            refine E_lload dX11_findLens_160 rfl ?_
            refine E_lneg dX11_findLens_162 ?_
            refine E_goto 168 dX11_findLens_163 ?_
            refine E_callSR dX11_findLens_168 lkX11_286 (c1) ?_
            refine E_lload dX11_findLens_171 rfl ?_
            refine E_lconst0 dX11_findLens_173 ?_
            refine E_lcmp_ge 184 dX11_findLens_174 dX11_findLens_175 (fun h174 => ?_) (fun h174 => ?_)
            · -- 184
              refine E_lload dX11_findLens_184 rfl ?_
              first | (exfalso; omega) | exact E_callSR dX11_findLens_186 lkX11_295 c2 (fin2 _ c3 (by omega) c5 (by omega))
            · -- 178
              refine E_lload dX11_findLens_178 rfl ?_
              refine E_lneg dX11_findLens_180 ?_
              refine E_goto 186 dX11_findLens_181 ?_
              first | (exfalso; omega) | exact E_callSR dX11_findLens_186 lkX11_295 c2 (fin2 _ c3 (by omega) c5 (by omega))
        · -- 148
          exact absurd h144 a1
  refine E_aload_n dX11_findLens_89 rfl ?_
  refine E_lload_n dX11_findLens_90 rfl ?_
  refine E_lload dX11_findLens_91 rfl ?_
  refine E_lmul dX11_findLens_93 ?_
  refine E_lload dX11_findLens_94 rfl ?_
  refine E_lload dX11_findLens_96 rfl ?_
  refine E_lmul dX11_findLens_98 ?_
  refine E_ladd dX11_findLens_99 ?_
  refine PX11_289 sk_203 dX11_findLens_100 ?_
  refine E_aload_n dX11_findLens_103 rfl ?_
  refine E_aload_n dX11_findLens_104 rfl ?_
  refine GX11_289 sk_203 dX11_findLens_105 ?_
  rw [up_r, if_pos rfl]
  refine E_lconst0 dX11_findLens_108 ?_
  refine E_lcmp_ge 121 dX11_findLens_109 dX11_findLens_110 (fun h109 => ?_) (fun h109 => ?_)
  · -- 121
    refine E_aload_n dX11_findLens_121 rfl ?_
    refine GX11_289 sk_203 dX11_findLens_122 ?_
    try rw [up_r, if_pos rfl]
    refine PX11_289 sk_203 dX11_findLens_125 ?_
    refine fin _ _ ?_ (by rw [up_r, if_pos rfl]) ((OffL.rf.fld (Or.inl rfl)).fld (Or.inl rfl))
    omega
  · -- 113
    refine E_aload_n dX11_findLens_113 rfl ?_
    refine GX11_289 sk_203 dX11_findLens_114 ?_
    rw [up_r, if_pos rfl]
    refine E_lneg dX11_findLens_117 ?_
    refine E_goto 125 dX11_findLens_118 ?_
    try rw [up_r, if_pos rfl]
    refine PX11_289 sk_203 dX11_findLens_125 ?_
    refine fin _ _ ?_ (by rw [up_r, if_pos rfl]) ((OffL.rf.fld (Or.inl rfl)).fld (Or.inl rfl))
    omega
end MLENS
