/-! lens parameters, as the class finds them -/
noncomputable def lensF (a b c d P : Int) : Int := (c * ((1 + b * (-(invI b a) % a)) / a) + d * (-(invI b a) % a)) % P
noncomputable def lensM (f P : Int) : Int := min (min f (-f % P)) (min (invI f P) (-(invI f P) % P))
noncomputable def lensQ4 (a b c d : Int) : Int := if ((a * d + b * c).natAbs : Int) ≤ 1 then 0 else lensM (lensF a b c d (a * d + b * c).natAbs) (a * d + b * c).natAbs
def lenA (s : Sp) : Int := match s.2.2.2 with
  | [] => 1
  | x :: _ => x.1
def lenB (s : Sp) : Int := match s.2.2.2 with
  | [] => s.2.2.1
  | x :: _ => x.2 + x.1 * s.2.2.1
def lenC (s : Sp) : Int := match s.2.2.2 with
  | _ :: x :: _ => x.1
  | _ => 1
def lenD (s : Sp) : Int := match s.2.2.2 with
  | _ :: x :: _ => x.2
  | _ => 0
theorem bez : ∀ (a b : Nat), ∃ u w : Int, u * a + w * b = (Nat.gcd a b : Int) := by
  intro a
  induction a using Nat.strongRecOn with
  | ind a ih =>
    intro b
    by_cases h : a = 0
    · subst h; exact ⟨0, 1, by simp⟩
    · obtain ⟨u, w, e⟩ := ih (b % a) (Nat.mod_lt _ (by omega)) a
      refine ⟨w - u * (b / a : Nat), u, ?_⟩
      rw [Nat.gcd_rec a b, ← e]
      have e2 : ((b % a : Nat) : Int) = (b : Int) - (a : Int) * ((b / a : Nat) : Int) := by
        have := Nat.div_add_mod b a
        have h3 : ((a * (b / a) + b % a : Nat) : Int) = (b : Int) := by rw [this]
        rw [Int.natCast_add, Int.natCast_mul] at h3
        omega
      rw [e2, Int.sub_mul, Int.mul_sub, Int.mul_assoc, Int.mul_comm (((b / a : Nat) : Int)) (a : Int)]
      omega
theorem bezI (x m : Int) : ∃ u w : Int, u * x + w * m = (Int.gcd x m : Int) := by
  obtain ⟨u, w, e⟩ := bez x.natAbs m.natAbs
  have hx : ∃ s : Int, (x.natAbs : Int) = s * x := by
    rcases Int.natAbs_eq x with h | h
    · exact ⟨1, by omega⟩
    · exact ⟨-1, by omega⟩
  have hm : ∃ s : Int, (m.natAbs : Int) = s * m := by
    rcases Int.natAbs_eq m with h | h
    · exact ⟨1, by omega⟩
    · exact ⟨-1, by omega⟩
  obtain ⟨s, hs⟩ := hx
  obtain ⟨t, ht⟩ := hm
  exact ⟨u * s, w * t, by rw [Int.mul_assoc, Int.mul_assoc, ← hs, ← ht]; exact e⟩
theorem invI_spec {x m : Int} (hm : 1 ≤ m) (hg : Int.gcd x m = 1) : (invI x m * x - 1) % m = 0 := by
  obtain ⟨u, w, e⟩ := bezI x m
  rw [hg] at e
  have h1 : (u * x - 1) % m = 0 := by
    rw [show u * x - 1 = m * (-w) by grind]
    exact Int.mul_emod_right _ _
  have h2 := inv_mod h1
  rw [invI_eq (Int.emod_nonneg _ (by omega)) (Int.emod_lt_of_pos _ (by omega)) h2]
  exact h2
theorem cop_of {x m u w : Int} (h : u * x + w * m = 1) : Int.gcd x m = 1 := by
  have h1 : (Int.gcd x m : Int) ∣ u * x + w * m := Int.dvd_add (Int.dvd_mul_of_dvd_right (Int.gcd_dvd_left x m)) (Int.dvd_mul_of_dvd_right (Int.gcd_dvd_right x m))
  rw [h] at h1
  have := Int.le_of_dvd (by decide) h1
  have h3 : Int.gcd x m ≠ 0 := by
    intro h0
    rw [h0] at h1
    have := Int.zero_dvd.mp h1
    omega
  omega
/-- x and y with a * y - b * x = 1: what is left over P is coprime to P -/
theorem lens_cop {a b c d x y : Int} (h : a * y - b * x = 1) (hcd : Int.gcd c d = 1) : Int.gcd (c * y + d * x) (a * d + b * c) = 1 := by
  obtain ⟨u, w, e⟩ := bezI c d
  rw [hcd] at e
  have e1 : a * (c * y + d * x) - x * (a * d + b * c) = c := by
    have : a * (c * y + d * x) - x * (a * d + b * c) = c * (a * y - b * x) := by grind
    rw [this, h, Int.mul_one]
  have e2 : y * (a * d + b * c) - b * (c * y + d * x) = d := by
    have : y * (a * d + b * c) - b * (c * y + d * x) = d * (a * y - b * x) := by grind
    rw [this, h, Int.mul_one]
  refine cop_of (u := u * a - w * b) (w := w * y - u * x) ?_
  have : (u * a - w * b) * (c * y + d * x) + (w * y - u * x) * (a * d + b * c) = u * (a * (c * y + d * x) - x * (a * d + b * c)) + w * (y * (a * d + b * c) - b * (c * y + d * x)) := by grind
  rw [this, e1, e2]; exact e
theorem lens_xy {a b : Int} (ha : 1 ≤ a) (hg : Int.gcd b a = 1) : a * ((1 + b * (-(invI b a) % a)) / a) - b * (-(invI b a) % a) = 1 ∧ 0 ≤ -(invI b a) % a ∧ -(invI b a) % a < a := by
  have h1 := invI_spec ha hg
  obtain ⟨u, hu⟩ := Int.dvd_of_emod_eq_zero h1
  have e := Int.mul_ediv_add_emod (-(invI b a)) a
  have hd : a ∣ 1 + b * (-(invI b a) % a) := by
    refine ⟨-u - b * (-(invI b a) / a), ?_⟩
    have e3 : -(invI b a) % a = -(invI b a) - a * (-(invI b a) / a) := by omega
    rw [e3]
    generalize -(invI b a) / a = z
    have : invI b a * b = 1 + a * u := by omega
    grind
  rw [Int.mul_ediv_cancel' hd]
  exact ⟨by omega, Int.emod_nonneg _ (by omega), Int.emod_lt_of_pos _ (by omega)⟩
theorem gcd_nat (x m : Int) : Int.gcd x (m.natAbs : Int) = Int.gcd x m := by simp [Int.gcd]
section LENS
variable {G : GT} {μ : Mem} {f : Nat}
theorem c_leastOf {q P : Int} (hP : μ 161 0 = P) (hp : 2 ≤ P ∧ P ≤ 100000000) (hq : 0 ≤ q ∧ q < P) (hg : Int.gcd q P = 1) : Ctr G mX3_leastOf [.ref 161, vl q] (Hp μ) (R1 (vl (lensM q P)) (Hp μ)) := by
  refine Ctr.of ?_
  have k1 := invI_rng (x := q) (m := P) (by omega)
  have k2 := Int.emod_nonneg (-q) (show P ≠ 0 by omega)
  have k3 := Int.emod_lt_of_pos (-q) (show 0 < P by omega)
  have k4 := Int.emod_nonneg (-(invI q P)) (show P ≠ 0 by omega)
  have k5 := Int.emod_lt_of_pos (-(invI q P)) (show 0 < P by omega)
  refine E_lload_n dX3_leastOf_0 rfl ?_
  refine E_aload_n dX3_leastOf_1 rfl ?_
  refine GX3_29 sk_161 dX3_leastOf_2 ?_
  rw [hP]
  refine E_callSR dX3_leastOf_5 lkX3_35 (c_inverse (x := q) (m := P) (by omega) (by omega) hg) ?_
  refine E_lstore_n dX3_leastOf_8 ?_
  refine E_lload_n dX3_leastOf_9 rfl ?_
  refine E_lload_n dX3_leastOf_10 rfl ?_
  refine E_lneg dX3_leastOf_11 ?_
  refine E_aload_n dX3_leastOf_12 rfl ?_
  refine GX3_29 sk_161 dX3_leastOf_13 ?_
  rw [hP]
  refine E_callSR dX3_leastOf_16 lkX3_41 (c_modulo (x := -q) (z := P) (by omega) (by omega)) ?_
  refine E_callSR dX3_leastOf_19 lkX3_53 (c_minl (x := q) (z := -q % P) (by omega) (by omega)) ?_
  refine E_lstore dX3_leastOf_22 ?_
  refine E_lload dX3_leastOf_24 rfl ?_
  refine E_lload_n dX3_leastOf_26 rfl ?_
  refine E_lload_n dX3_leastOf_27 rfl ?_
  refine E_lneg dX3_leastOf_28 ?_
  refine E_aload_n dX3_leastOf_29 rfl ?_
  refine GX3_29 sk_161 dX3_leastOf_30 ?_
  rw [hP]
  refine E_callSR dX3_leastOf_33 lkX3_41 (c_modulo (x := -(invI q P)) (z := P) (by omega) (by omega)) ?_
  refine E_callSR dX3_leastOf_36 lkX3_53 (c_minl (x := invI q P) (z := -(invI q P) % P) (by omega) (by omega)) ?_
  refine E_callSR dX3_leastOf_39 lkX3_53 (c_minl (x := min q (-q % P)) (z := min (invI q P) (-(invI q P) % P)) (by omega) (by omega)) ?_
  refine E_lret dX3_leastOf_42 ?_
  exact ⟨rfl, rfl⟩
theorem lens_tail {a b c d : Int} (w : Value) (ha : 1 ≤ a ∧ a ≤ 30) (hb : -31000 ≤ b ∧ b ≤ 31000) (hc : 1 ≤ c ∧ c ≤ 30) (hd : 0 ≤ d ∧ d ≤ 30) (hab : Int.gcd b a = 1) (hcd : Int.gcd c d = 1) :
    E G mX3_study (Zq G mX3_study (V0 (fun μ' => μ' 161 0 = (a * d + b * c).natAbs ∧ μ' 161 1 = lensQ4 a b c d ∧ Off 161 1 μ μ'))) 0 0 93 [.ref 161, w, vl a, .retAddr 0, vl b, .retAddr 0, vl c, .retAddr 0, vl d, .retAddr 0, .retAddr 0, .retAddr 0, .retAddr 0, .retAddr 0] [] (Hp μ) := by
  obtain ⟨k1, k2, k3⟩ := lens_xy ha.1 hab
  have k4 := lens_cop k1 hcd
  have k5 := invI_rng (x := b) (m := a) (by omega)
  have b1 : 0 ≤ a * d ∧ a * d ≤ 900 := by
    have t1 := Int.mul_nonneg (show 0 ≤ a by omega) hd.1
    have t2 := Int.mul_le_mul ha.2 hd.2 hd.1 (by decide)
    omega
  have b2 : -930000 ≤ b * c ∧ b * c ≤ 930000 := by
    have t1 := Int.mul_le_mul_of_nonneg_right hb.1 (show 0 ≤ c by omega)
    have t2 := Int.mul_le_mul_of_nonneg_right hb.2 (show 0 ≤ c by omega)
    omega
  have b3 : -930000 ≤ b * (-(invI b a) % a) ∧ b * (-(invI b a) % a) ≤ 930000 := by
    have t1 := Int.mul_le_mul_of_nonneg_right hb.1 k2
    have t2 := Int.mul_le_mul_of_nonneg_right hb.2 k2
    omega
  generalize hx : -(invI b a) % a = x at k1 k2 k3 k4 b3
  generalize hy : (1 + b * x) / a = y at k1 k4
  have b4 : -1000000 ≤ y ∧ y ≤ 1000000 := by
    rw [← hy]
    exact ⟨Int.le_ediv_of_mul_le (by omega) (by omega), Int.ediv_le_of_le_mul (by omega) (by omega)⟩
  have b5 : -30000000 ≤ c * y ∧ c * y ≤ 30000000 := by
    have t1 := Int.mul_le_mul_of_nonneg_left b4.1 (show 0 ≤ c by omega)
    have t2 := Int.mul_le_mul_of_nonneg_left b4.2 (show 0 ≤ c by omega)
    omega
  have b6 : 0 ≤ d * x ∧ d * x ≤ 900 := by
    have t1 := Int.mul_nonneg hd.1 k2
    have t2 := Int.mul_le_mul hd.2 (show x ≤ 30 by omega) k2 (by decide)
    omega
  have hP2 : (2 : Int) ≤ (a * d + b * c).natAbs → 0 ≤ (c * y + d * x) % ((a * d + b * c).natAbs : Int) ∧ (c * y + d * x) % ((a * d + b * c).natAbs : Int) < (a * d + b * c).natAbs ∧ Int.gcd ((c * y + d * x) % ((a * d + b * c).natAbs : Int)) ((a * d + b * c).natAbs : Int) = 1 := fun h => ⟨Int.emod_nonneg _ (by omega), Int.emod_lt_of_pos _ (by omega), by rw [gcd_em, gcd_nat]; exact k4⟩
  have hQ0 : ((a * d + b * c).natAbs : Int) ≤ 1 → lensQ4 a b c d = 0 := fun h => if_pos h
  have hQ1 : ¬ ((a * d + b * c).natAbs : Int) ≤ 1 → lensQ4 a b c d = lensM ((c * y + d * x) % ((a * d + b * c).natAbs : Int)) ((a * d + b * c).natAbs : Int) := fun h => by
    unfold lensQ4 lensF
    rw [if_neg h, hx, hy]
  generalize hPP : ((a * d + b * c).natAbs : Int) = P at hP2 hQ0 hQ1 ⊢
  have hPr : 0 ≤ P ∧ P ≤ 1000000 := by omega
  refine E_aload_n dX3_study_93 rfl ?_
  refine E_lload_n dX3_study_94 rfl ?_
  refine E_lload dX3_study_95 rfl ?_
  refine E_lmul dX3_study_97 ?_
  refine E_lload dX3_study_98 rfl ?_
  refine E_lload dX3_study_100 rfl ?_
  refine E_lmul dX3_study_102 ?_
  refine E_ladd dX3_study_103 ?_
  refine E_callSR dX3_study_104 lkX3_23 (c_absl (x := a * d + b * c) (by omega)) ?_
  rw [hPP]
  refine PX3_29 sk_161 dX3_study_107 ?_
  refine E_lload dX3_study_110 rfl ?_
  refine E_lload_n dX3_study_112 rfl ?_
  refine E_callSR dX3_study_113 lkX3_35 (c_inverse (x := b) (m := a) (by omega) (by omega) hab) ?_
  refine E_lneg dX3_study_116 ?_
  refine E_lload_n dX3_study_117 rfl ?_
  refine E_callSR dX3_study_118 lkX3_41 (c_modulo (x := -(invI b a)) (z := a) (by omega) (by omega)) ?_
  rw [hx]
  refine E_lstore dX3_study_121 ?_
  refine E_lconst1 dX3_study_123 ?_
  refine E_lload dX3_study_124 rfl ?_
  refine E_lload dX3_study_126 rfl ?_
  refine E_lmul dX3_study_128 ?_
  refine E_ladd dX3_study_129 ?_
  refine E_lload_n dX3_study_130 rfl ?_
  refine E_callSR dX3_study_131 lkX3_44 (c_quotient (x := 1 + b * x) (z := a) (by omega) (by omega)) ?_
  rw [hy]
  refine E_lstore dX3_study_134 ?_
  refine E_aload_n dX3_study_136 rfl ?_
  refine E_aload_n dX3_study_137 rfl ?_
  refine GX3_29 sk_161 dX3_study_138 ?_
  rw [up_r, if_pos rfl]
  refine E_lconst1 dX3_study_141 ?_
  refine E_lcmp_gt 150 dX3_study_142 dX3_study_143 (fun h142 => ?_) (fun h142 => ?_)
  · -- 150
    refine E_aload_n dX3_study_150 rfl ?_
    refine E_lload dX3_study_151 rfl ?_
    refine E_lload dX3_study_153 rfl ?_
    refine E_lmul dX3_study_155 ?_
    refine E_lload dX3_study_156 rfl ?_
    refine E_lload dX3_study_158 rfl ?_
    refine E_lmul dX3_study_160 ?_
    refine E_ladd dX3_study_161 ?_
    refine E_aload_n dX3_study_162 rfl ?_
    refine GX3_29 sk_161 dX3_study_163 ?_
    rw [up_r, if_pos rfl]
    refine E_callSR dX3_study_166 lkX3_41 (c_modulo (x := c * y + d * x) (z := P) (by omega) (by omega)) ?_
    have k9 := hP2 (by omega)
    refine E_callVR dX3_study_169 lkX3_47 (Hp_get sk_161) (c_leastOf (q := (c * y + d * x) % P) (P := P) (by rw [up_r, if_pos rfl]) (by omega) ⟨k9.1, k9.2.1⟩ k9.2.2) ?_
    refine PX3_50 sk_161 dX3_study_172 ?_
    refine E_vret dX3_study_175 ?_
    refine ⟨rfl, _, rfl, by rw [up_r, if_neg (by omega), up_r, if_pos rfl], ?_, (Off.rf.up (by omega) (by omega)).up (by omega) (by omega)⟩
    rw [up_r, if_pos rfl]
    first | exact (hQ0 (by omega)).symm | exact (hQ1 (by omega)).symm
  · -- 146
    refine E_lconst0 dX3_study_146 ?_
    refine E_goto 172 dX3_study_147 ?_
    refine PX3_50 sk_161 dX3_study_172 ?_
    refine E_vret dX3_study_175 ?_
    refine ⟨rfl, _, rfl, by rw [up_r, if_neg (by omega), up_r, if_pos rfl], ?_, (Off.rf.up (by omega) (by omega)).up (by omega) (by omega)⟩
    rw [up_r, if_pos rfl]
    first | exact (hQ0 (by omega)).symm | exact (hQ1 (by omega)).symm
theorem c_lstudy {s : Sp} (hf : isSp f) (hfd : f + 3 ≤ 161 ∨ 162 ≤ f) (hs : RepS μ f s) (hok : spOk s) (h2 : s.2.2.2.length ≤ 2) : Ctr G mX3_study [.ref 161, .ref f] (Hp μ) (V0 (fun μ' => μ' 161 0 = (lenA s * lenD s + lenB s * lenC s).natAbs ∧ μ' 161 1 = lensQ4 (lenA s) (lenB s) (lenC s) (lenD s) ∧ Off 161 1 μ μ')) := by
  refine Ctr.of ?_
  have k0 := hok.2.2.2.1
  have k1 := hok.2.2.2.2.1
  have k2 := hok.2.2.2.2.2.2
  have k3 := hs.2.2.2.1
  have k4 := hs.2.2.2.2.2
  have k5 := hs.2.2.1
  obtain ⟨kd, ge, sh, l⟩ := s
  simp only at k0 k1 k2 k3 k4 k5 h2
  match l, k2, k3, k4, h2 with
  | [], k2, k3, k4, h2 =>
    simp only [List.length_nil] at k3
    refine E_aload_n dX3_study_0 rfl ?_
    refine GX3_7 hf.1 dX3_study_1 ?_
    refine E_if_le 17 dX3_study_4 (fun h4 => ?_) (fun h4 => ?_)
    · -- 17
      refine E_lconst1 dX3_study_17 ?_
      refine E_lstore_n dX3_study_18 ?_
      refine E_aload_n dX3_study_19 rfl ?_
      refine GX3_7 hf.1 dX3_study_20 ?_
      refine E_if_le 44 dX3_study_23 (fun h23 => ?_) (fun h23 => ?_)
      · -- 44
        refine E_aload_n dX3_study_44 rfl ?_
        refine GX3_20 hf.1 dX3_study_45 ?_
        rw [k5]
        refine E_i2l dX3_study_48 ?_
        refine E_lstore dX3_study_49 ?_
        refine E_aload_n dX3_study_51 rfl ?_
        refine GX3_7 hf.1 dX3_study_52 ?_
        refine E_iconst dX3_study_55 ?_
        refine E_icmp_le 69 dX3_study_56 (fun h56 => ?_) (fun h56 => ?_)
        · -- 69
          refine E_lconst1 dX3_study_69 ?_
          refine E_lstore dX3_study_70 ?_
          refine E_aload_n dX3_study_72 rfl ?_
          refine GX3_7 hf.1 dX3_study_73 ?_
          refine E_iconst dX3_study_76 ?_
          refine E_icmp_le 90 dX3_study_77 (fun h77 => ?_) (fun h77 => ?_)
          · -- 90
            refine E_lconst0 dX3_study_90 ?_
            refine E_lstore dX3_study_91 ?_
            exact lens_tail (μ := μ) (a := 1) (b := sh) (c := 1) (d := 0) _ (by omega) (by omega) (by omega) (by omega) (by simp) (by simp)
          · -- 80
            exfalso; omega
        · -- 59
          exfalso; omega
      · -- 26
        exfalso; omega
    · -- 7
      exfalso; omega
  | [x], k2, k3, k4, h2 =>
    simp only [List.length_cons, List.length_nil] at k3
    have x0 := k4 0 x rfl
    simp only [Int.natCast_zero] at x0
    obtain ⟨x1, x2, x3, x4, x5⟩ := k2 x (by simp)
    have hb : -30000 ≤ x.1 * sh ∧ x.1 * sh ≤ 30000 := by
      have t1 := Int.mul_le_mul_of_nonneg_left k0 (show 0 ≤ x.1 by omega)
      have t2 := Int.mul_le_mul_of_nonneg_left k1 (show 0 ≤ x.1 by omega)
      omega
    refine E_aload_n dX3_study_0 rfl ?_
    refine GX3_7 hf.1 dX3_study_1 ?_
    refine E_if_le 17 dX3_study_4 (fun h4 => ?_) (fun h4 => ?_)
    · -- 17
      exfalso; omega
    · -- 7
      refine E_aload_n dX3_study_7 rfl ?_
      refine GX3_13 hf.1 dX3_study_8 ?_
      refine E_iconst dX3_study_11 ?_
      refine H_iald hf.2.1 dX3_study_12 ?_
      rw [x0.1]
      refine E_i2l dX3_study_13 ?_
      refine E_goto 18 dX3_study_14 ?_
      refine E_lstore_n dX3_study_18 ?_
      refine E_aload_n dX3_study_19 rfl ?_
      refine GX3_7 hf.1 dX3_study_20 ?_
      refine E_if_le 44 dX3_study_23 (fun h23 => ?_) (fun h23 => ?_)
      · -- 44
        exfalso; omega
      · -- 26
        refine E_aload_n dX3_study_26 rfl ?_
        refine GX3_17 hf.1 dX3_study_27 ?_
        refine E_iconst dX3_study_30 ?_
        refine H_iald hf.2.2 dX3_study_31 ?_
        rw [x0.2]
        refine E_i2l dX3_study_32 ?_
        refine E_lload_n dX3_study_33 rfl ?_
        refine E_aload_n dX3_study_34 rfl ?_
        refine GX3_20 hf.1 dX3_study_35 ?_
        rw [k5]
        refine E_i2l dX3_study_38 ?_
        refine E_lmul dX3_study_39 ?_
        refine E_ladd dX3_study_40 ?_
        refine E_goto 49 dX3_study_41 ?_
        refine E_lstore dX3_study_49 ?_
        refine E_aload_n dX3_study_51 rfl ?_
        refine GX3_7 hf.1 dX3_study_52 ?_
        refine E_iconst dX3_study_55 ?_
        refine E_icmp_le 69 dX3_study_56 (fun h56 => ?_) (fun h56 => ?_)
        · -- 69
          refine E_lconst1 dX3_study_69 ?_
          refine E_lstore dX3_study_70 ?_
          refine E_aload_n dX3_study_72 rfl ?_
          refine GX3_7 hf.1 dX3_study_73 ?_
          refine E_iconst dX3_study_76 ?_
          refine E_icmp_le 90 dX3_study_77 (fun h77 => ?_) (fun h77 => ?_)
          · -- 90
            refine E_lconst0 dX3_study_90 ?_
            refine E_lstore dX3_study_91 ?_
            exact lens_tail (μ := μ) (a := x.1) (b := x.2 + x.1 * sh) (c := 1) (d := 0) _ (by omega) (by omega) (by omega) (by omega) (by rw [Int.gcd_add_mul_left_left, Int.gcd_comm]; exact x5) (by simp)
          · -- 80
            exfalso; omega
        · -- 59
          exfalso; omega
  | [x, z], k2, k3, k4, h2 =>
    simp only [List.length_cons, List.length_nil] at k3
    have x0 := k4 0 x rfl
    have z0 := k4 1 z rfl
    simp only [Int.natCast_zero] at x0
    simp only [Int.natCast_one] at z0
    obtain ⟨x1, x2, x3, x4, x5⟩ := k2 x (by simp)
    obtain ⟨z1, z2, z3, z4, z5⟩ := k2 z (by simp)
    have hb : -30000 ≤ x.1 * sh ∧ x.1 * sh ≤ 30000 := by
      have t1 := Int.mul_le_mul_of_nonneg_left k0 (show 0 ≤ x.1 by omega)
      have t2 := Int.mul_le_mul_of_nonneg_left k1 (show 0 ≤ x.1 by omega)
      omega
    refine E_aload_n dX3_study_0 rfl ?_
    refine GX3_7 hf.1 dX3_study_1 ?_
    refine E_if_le 17 dX3_study_4 (fun h4 => ?_) (fun h4 => ?_)
    · -- 17
      exfalso; omega
    · -- 7
      refine E_aload_n dX3_study_7 rfl ?_
      refine GX3_13 hf.1 dX3_study_8 ?_
      refine E_iconst dX3_study_11 ?_
      refine H_iald hf.2.1 dX3_study_12 ?_
      rw [x0.1]
      refine E_i2l dX3_study_13 ?_
      refine E_goto 18 dX3_study_14 ?_
      refine E_lstore_n dX3_study_18 ?_
      refine E_aload_n dX3_study_19 rfl ?_
      refine GX3_7 hf.1 dX3_study_20 ?_
      refine E_if_le 44 dX3_study_23 (fun h23 => ?_) (fun h23 => ?_)
      · -- 44
        exfalso; omega
      · -- 26
        refine E_aload_n dX3_study_26 rfl ?_
        refine GX3_17 hf.1 dX3_study_27 ?_
        refine E_iconst dX3_study_30 ?_
        refine H_iald hf.2.2 dX3_study_31 ?_
        rw [x0.2]
        refine E_i2l dX3_study_32 ?_
        refine E_lload_n dX3_study_33 rfl ?_
        refine E_aload_n dX3_study_34 rfl ?_
        refine GX3_20 hf.1 dX3_study_35 ?_
        rw [k5]
        refine E_i2l dX3_study_38 ?_
        refine E_lmul dX3_study_39 ?_
        refine E_ladd dX3_study_40 ?_
        refine E_goto 49 dX3_study_41 ?_
        refine E_lstore dX3_study_49 ?_
        refine E_aload_n dX3_study_51 rfl ?_
        refine GX3_7 hf.1 dX3_study_52 ?_
        refine E_iconst dX3_study_55 ?_
        refine E_icmp_le 69 dX3_study_56 (fun h56 => ?_) (fun h56 => ?_)
        · -- 69
          exfalso; omega
        · -- 59
          refine E_aload_n dX3_study_59 rfl ?_
          refine GX3_13 hf.1 dX3_study_60 ?_
          refine E_iconst dX3_study_63 ?_
          refine H_iald hf.2.1 dX3_study_64 ?_
          rw [z0.1]
          refine E_i2l dX3_study_65 ?_
          refine E_goto 70 dX3_study_66 ?_
          refine E_lstore dX3_study_70 ?_
          refine E_aload_n dX3_study_72 rfl ?_
          refine GX3_7 hf.1 dX3_study_73 ?_
          refine E_iconst dX3_study_76 ?_
          refine E_icmp_le 90 dX3_study_77 (fun h77 => ?_) (fun h77 => ?_)
          · -- 90
            exfalso; omega
          · -- 80
            refine E_aload_n dX3_study_80 rfl ?_
            refine GX3_17 hf.1 dX3_study_81 ?_
            refine E_iconst dX3_study_84 ?_
            refine H_iald hf.2.2 dX3_study_85 ?_
            rw [z0.2]
            refine E_i2l dX3_study_86 ?_
            refine E_goto 91 dX3_study_87 ?_
            refine E_lstore dX3_study_91 ?_
            exact lens_tail (μ := μ) (a := x.1) (b := x.2 + x.1 * sh) (c := z.1) (d := z.2) _ (by omega) (by omega) (by omega) (by omega) (by rw [Int.gcd_add_mul_left_left, Int.gcd_comm]; exact x5) z5
end LENS
