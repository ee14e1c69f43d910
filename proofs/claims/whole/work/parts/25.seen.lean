/-! FibredSpaces: what was seen, images, counts -/
def bitsN (p : Nat → Bool) : Nat → Nat
  | 0 => 0
  | n + 1 => bitsN p n + (if p n = true then 2 ^ n else 0)
theorem bitsN_lt (p : Nat → Bool) : ∀ n, bitsN p n < 2 ^ n
  | 0 => by simp [bitsN]
  | n + 1 => by
    have := bitsN_lt p n
    simp only [bitsN, Nat.pow_succ]
    split <;> omega
def candB (σ : St) (i : Nat) : Bool := agr (rankC (σ.1 i)) (torC (σ.1 i)) σ.2.2.2.2
def whichN (σ : St) : Nat := bitsN (candB σ) 6
theorem whichN_lt (σ : St) : whichN σ < 64 := bitsN_lt _ 6
theorem shl_ok : ∀ n : Fin 6, Int32.ofInt 1 <<< (Int32.ofInt (n.val : Int) &&& 31) = Int32.ofInt ((2 ^ n.val : Nat) : Int) := by decide +kernel
theorem ior_ok : ∀ n : Fin 6, ∀ s : Fin 64, s.val < 2 ^ n.val → Int32.ofInt (s.val : Int) ||| Int32.ofInt ((2 ^ n.val : Nat) : Int) = Int32.ofInt ((s.val + 2 ^ n.val : Nat) : Int) := by decide +kernel
theorem shr_ok : ∀ s : Fin 64, ∀ n : Fin 6, Int32.ofInt (s.val : Int) >>> (Int32.ofInt (n.val : Int) &&& 31) = Int32.ofInt ((s.val / 2 ^ n.val : Nat) : Int) := by decide +kernel
theorem and_ok : ∀ s t : Fin 64, Int32.ofInt (s.val : Int) &&& Int32.ofInt (t.val : Int) = Int32.ofInt ((s.val &&& t.val : Nat) : Int) := by decide +kernel
def tbN (s i j : Nat) : Nat := (s / 2 ^ i &&& s / 2 ^ j) &&& 1
def tb (s i j : Nat) : Bool := decide (tbN s i j = 1)
noncomputable def clsN (f : Nat → Int) (s i : Nat) : Nat → Int
  | 0 => 0
  | j + 1 => clsN f s i j + cif (tb s i j = true ∧ f i = f j) 1 0
theorem clsN_rng (f : Nat → Int) (s i : Nat) : ∀ n : Nat, 0 ≤ clsN f s i n ∧ clsN f s i n ≤ n
  | 0 => by simp [clsN]
  | n + 1 => by
    have h1 := clsN_rng f s i n
    simp only [clsN]
    by_cases h : tb s i n = true ∧ f i = f n
    · rw [cif_pos h]; omega
    · rw [cif_neg h]; omega
noncomputable def grN (f : Nat → Int) (s : Nat) : Nat → Int
  | 0 => 0
  | i + 1 => max (grN f s i) (clsN f s i 6)
theorem grN_rng (f : Nat → Int) (s : Nat) : ∀ n : Nat, 0 ≤ grN f s n ∧ grN f s n ≤ 6
  | 0 => by simp [grN]
  | n + 1 => by
    have h1 := grN_rng f s n
    have h2 := clsN_rng f s n 6
    simp only [grN]
    omega
noncomputable def greatS (σ : St) (s : Nat) (m : Int) : Int := grN (fun i => mapS (σ.1 i) m) s 6
/-- least, and the order that has it -/
noncomputable def askN (g : Int → Int) : Nat → Int × Int
  | 0 => (7, 2)
  | n + 1 => cif (g (n + 2) < (askN g n).1) (g (n + 2), (n : Int) + 2) (askN g n)
def bc (s : Nat) : Int := ((s % 2 + s / 2 % 2 + s / 4 % 2 + s / 8 % 2 + s / 16 % 2 + s / 32 % 2 : Nat) : Int)
noncomputable def aAsk (σ : St) : Int := cif (bc (whichN σ) < 2) (-9) (askN (fun m => greatS σ (whichN σ) m) 11).2
def ushI (x k : Int) : Int := (((Int32.ofInt x).toUInt32 >>> ((Int32.ofInt k).toUInt32 &&& Int32.toUInt32 31)).toInt32).toInt
def andI (x k : Int) : Int := (Int32.ofInt x &&& Int32.ofInt k).toInt
def bA (x : Int) : Int := x - andI (ushI x 1) 1431655765
def bB (x : Int) : Int := andI x 858993459 + andI (ushI x 2) 858993459
def bC (x : Int) : Int := andI (x + ushI x 4) 252645135
def bD (x : Int) : Int := x + ushI x 8
def bE (x : Int) : Int := x + ushI x 16
theorem bc_ok : ∀ s : Fin 64, andI (bE (bD (bC (bB (bA (s.val : Int)))))) 63 = bc s.val := by decide +kernel
section SEEN
variable {G : GT} {μ : Mem} {M : HV} {σ : St}
theorem c_bitCount {s : Nat} (hs : s < 64) : Ctr G mJ6_bitCount_0f7a4 [vi s] M (R1 (vi (bc s)) M) := by
  refine Ctr.of ?_
  refine E_iload_n dJ6_bitCount_0f7a4_0 rfl ?_
  refine E_iload_n dJ6_bitCount_0f7a4_1 rfl ?_
  refine E_iconst dJ6_bitCount_0f7a4_2 ?_
  refine E_iushr (_) dJ6_bitCount_0f7a4_3 ((Int32.ofInt_toInt _).symm) ?_
  refine E_ldcw dJ6_bitCount_0f7a4_4 coJ6_265 ?_
  refine E_iand (_) dJ6_bitCount_0f7a4_7 ((Int32.ofInt_toInt _).symm) ?_
  refine E_isub dJ6_bitCount_0f7a4_8 ?_
  change E G mJ6_bitCount_0f7a4 _ 0 0 9 _ [vi (bA s)] _
  refine E_istore_n dJ6_bitCount_0f7a4_9 ?_
  refine E_iload_n dJ6_bitCount_0f7a4_10 rfl ?_
  refine E_ldcw dJ6_bitCount_0f7a4_11 coJ6_266 ?_
  refine E_iand (_) dJ6_bitCount_0f7a4_14 ((Int32.ofInt_toInt _).symm) ?_
  refine E_iload_n dJ6_bitCount_0f7a4_15 rfl ?_
  refine E_iconst dJ6_bitCount_0f7a4_16 ?_
  refine E_iushr (_) dJ6_bitCount_0f7a4_17 ((Int32.ofInt_toInt _).symm) ?_
  refine E_ldcw dJ6_bitCount_0f7a4_18 coJ6_266 ?_
  refine E_iand (_) dJ6_bitCount_0f7a4_21 ((Int32.ofInt_toInt _).symm) ?_
  refine E_iadd dJ6_bitCount_0f7a4_22 ?_
  change E G mJ6_bitCount_0f7a4 _ 0 0 23 _ [vi (bB (bA s))] _
  refine E_istore_n dJ6_bitCount_0f7a4_23 ?_
  refine E_iload_n dJ6_bitCount_0f7a4_24 rfl ?_
  refine E_iload_n dJ6_bitCount_0f7a4_25 rfl ?_
  refine E_iconst dJ6_bitCount_0f7a4_26 ?_
  refine E_iushr (_) dJ6_bitCount_0f7a4_27 ((Int32.ofInt_toInt _).symm) ?_
  refine E_iadd dJ6_bitCount_0f7a4_28 ?_
  refine E_ldcw dJ6_bitCount_0f7a4_29 coJ6_267 ?_
  refine E_iand (_) dJ6_bitCount_0f7a4_32 ((Int32.ofInt_toInt _).symm) ?_
  change E G mJ6_bitCount_0f7a4 _ 0 0 33 _ [vi (bC (bB (bA s)))] _
  refine E_istore_n dJ6_bitCount_0f7a4_33 ?_
  refine E_iload_n dJ6_bitCount_0f7a4_34 rfl ?_
  refine E_iload_n dJ6_bitCount_0f7a4_35 rfl ?_
  refine E_bipush dJ6_bitCount_0f7a4_36 ?_
  refine E_iushr (_) dJ6_bitCount_0f7a4_38 ((Int32.ofInt_toInt _).symm) ?_
  refine E_iadd dJ6_bitCount_0f7a4_39 ?_
  change E G mJ6_bitCount_0f7a4 _ 0 0 40 _ [vi (bD (bC (bB (bA s))))] _
  refine E_istore_n dJ6_bitCount_0f7a4_40 ?_
  refine E_iload_n dJ6_bitCount_0f7a4_41 rfl ?_
  refine E_iload_n dJ6_bitCount_0f7a4_42 rfl ?_
  refine E_bipush dJ6_bitCount_0f7a4_43 ?_
  refine E_iushr (_) dJ6_bitCount_0f7a4_45 ((Int32.ofInt_toInt _).symm) ?_
  refine E_iadd dJ6_bitCount_0f7a4_46 ?_
  change E G mJ6_bitCount_0f7a4 _ 0 0 47 _ [vi (bE (bD (bC (bB (bA s)))))] _
  refine E_istore_n dJ6_bitCount_0f7a4_47 ?_
  refine E_iload_n dJ6_bitCount_0f7a4_48 rfl ?_
  refine E_bipush dJ6_bitCount_0f7a4_49 ?_
  refine E_iand (_) dJ6_bitCount_0f7a4_51 ((Int32.ofInt_toInt _).symm) ?_
  refine E_iret dJ6_bitCount_0f7a4_52 ?_
  exact ⟨congrArg (fun z => some (vi z)) (bc_ok ⟨s, hs⟩), rfl⟩
theorem cand_loop (hC : RepC μ σ) (hok : stOk σ) : ∀ (d n : Nat) (μ' : Mem), n + d = 6 → Off 153 3 μ μ' →
    E G mX10_candidates (Zq G mX10_candidates (V1 (vi (whichN σ : Nat)) (fun μ' => Off 153 3 μ μ'))) 0 0 4 [.ref 0, vi (bitsN (candB σ) n : Nat), vi (n : Int)] [] (Hp μ')
  | 0, n, μ', hn, hm => by
    have : n = 6 := by omega
    subst this
    refine E_iload_n dX10_candidates_4 rfl ?_
    refine E_bipush dX10_candidates_5 ?_
    refine E_icmp_ge 52 dX10_candidates_7 (fun h7 => ?_) (fun h7 => ?_)
    · -- 52
      refine E_iload_n dX10_candidates_52 rfl ?_
      refine E_iret dX10_candidates_53 ?_
      exact ⟨rfl, _, rfl, hm⟩
    · -- 10
      exfalso; omega
  | d + 1, n, μ', hn, hm => by
    have q1 : isS (n : Int) := ⟨by omega, by omega⟩
    have hf := isSp_sh q1
    have l2 := at_lt q1
    have hCm := hC.off hm (by omega)
    have hs := rep_at q1 hCm.1
    have ho := ok_at q1 hok.1
    have hr := rankC_rng ho
    have hb := bitsN_lt (candB σ) n
    have hb6 : 2 ^ n ≤ 32 := Nat.pow_le_pow_right (n := 2) (j := 5) (by decide) (by omega)
    have en : ((n : Int)).toNat = n := by omega
    have e1 := shl_ok ⟨n, by omega⟩
    have e2 := ior_ok ⟨n, by omega⟩ ⟨bitsN (candB σ) n, by omega⟩ hb
    have fin : ∀ (μ2 : Mem), Off 153 3 μ μ2 → E G mX10_candidates (Zq G mX10_candidates (V1 (vi (whichN σ : Nat)) (fun μ' => Off 153 3 μ μ'))) 0 0 46 [.ref 0, vi (bitsN (candB σ) (n + 1) : Nat), vi (n : Int)] [] (Hp μ2) := by
      intro μ2 h2
      refine E_iinc dX10_candidates_46 rfl ?_
      refine E_goto 4 dX10_candidates_49 ?_
      exact cand_loop hC hok d (n + 1) μ2 (by omega) h2
    by_cases hB : candB σ n = true
    · rw [show bitsN (candB σ) (n + 1) = bitsN (candB σ) n + 2 ^ n by simp only [bitsN]; rw [if_pos hB]] at fin
      have ha : (if agr (rankC (σ.1 (n : Int).toNat)) (torC (σ.1 (n : Int).toNat)) σ.2.2.2.2 = true then (1 : Int) else 0) = 1 := by rw [en]; exact if_pos hB
      refine E_iload_n dX10_candidates_4 rfl ?_
      refine E_bipush dX10_candidates_5 ?_
      refine E_icmp_ge 52 dX10_candidates_7 (fun h7 => ?_) (fun h7 => ?_)
      · -- 52
        exfalso; omega
      · -- 10
        refine E_aload_n dX10_candidates_10 rfl ?_
        refine GX10_55 sk_0 dX10_candidates_11 ?_
        refine E_aload_n dX10_candidates_14 rfl ?_
        refine GX10_10 sk_0 dX10_candidates_15 ?_
        refine GX10_104 sk_1 dX10_candidates_18 ?_
        refine E_iload_n dX10_candidates_21 rfl ?_
        refine H_aald4 sk_2 dX10_candidates_22 (sp_at q1) ?_
        refine E_callVV dX10_candidates_23 lkX10_172 (Hp_get sk_153) (c_study hf (by omega) hs ho) ?_
        rintro μ1 ⟨a1, a2, a3⟩
        refine E_aload_n dX10_candidates_26 rfl ?_
        refine GX10_41 sk_0 dX10_candidates_27 ?_
        refine E_aload_n dX10_candidates_30 rfl ?_
        refine GX10_55 sk_0 dX10_candidates_31 ?_
        refine E_callVR dX10_candidates_34 lkX10_274 (Hp_get sk_147) (c_agree (hCm.off a3 (by omega)).2.2.2.2 hok.2.2.2.2.2.2.1 a1 (torC_r4 ho) a2 hr) ?_
        rw [ha]
        refine E_if_eq 46 dX10_candidates_37 (fun h37 => ?_) (fun h37 => ?_)
        · -- 46
          first | exact absurd h37 (by decide) | exact fin μ1 (hm.tr a3)
        · -- 40
          refine E_iload_n dX10_candidates_40 rfl ?_
          refine E_iconst dX10_candidates_41 ?_
          refine E_iload_n dX10_candidates_42 rfl ?_
          refine E_ishl ((2 ^ n : Nat)) dX10_candidates_43 (e1) ?_
          refine E_ior ((bitsN (candB σ) n + 2 ^ n : Nat)) dX10_candidates_44 (e2) ?_
          refine E_istore_n dX10_candidates_45 ?_
          first | exact absurd h37 (by decide) | exact fin μ1 (hm.tr a3)
    · rw [show bitsN (candB σ) (n + 1) = bitsN (candB σ) n by simp only [bitsN]; rw [if_neg hB]; rfl] at fin
      have ha : (if agr (rankC (σ.1 (n : Int).toNat)) (torC (σ.1 (n : Int).toNat)) σ.2.2.2.2 = true then (1 : Int) else 0) = 0 := by rw [en]; exact if_neg hB
      refine E_iload_n dX10_candidates_4 rfl ?_
      refine E_bipush dX10_candidates_5 ?_
      refine E_icmp_ge 52 dX10_candidates_7 (fun h7 => ?_) (fun h7 => ?_)
      · -- 52
        exfalso; omega
      · -- 10
        refine E_aload_n dX10_candidates_10 rfl ?_
        refine GX10_55 sk_0 dX10_candidates_11 ?_
        refine E_aload_n dX10_candidates_14 rfl ?_
        refine GX10_10 sk_0 dX10_candidates_15 ?_
        refine GX10_104 sk_1 dX10_candidates_18 ?_
        refine E_iload_n dX10_candidates_21 rfl ?_
        refine H_aald4 sk_2 dX10_candidates_22 (sp_at q1) ?_
        refine E_callVV dX10_candidates_23 lkX10_172 (Hp_get sk_153) (c_study hf (by omega) hs ho) ?_
        rintro μ1 ⟨a1, a2, a3⟩
        refine E_aload_n dX10_candidates_26 rfl ?_
        refine GX10_41 sk_0 dX10_candidates_27 ?_
        refine E_aload_n dX10_candidates_30 rfl ?_
        refine GX10_55 sk_0 dX10_candidates_31 ?_
        refine E_callVR dX10_candidates_34 lkX10_274 (Hp_get sk_147) (c_agree (hCm.off a3 (by omega)).2.2.2.2 hok.2.2.2.2.2.2.1 a1 (torC_r4 ho) a2 hr) ?_
        rw [ha]
        refine E_if_eq 46 dX10_candidates_37 (fun h37 => ?_) (fun h37 => ?_)
        · -- 46
          exact fin μ1 (hm.tr a3)
        · -- 40
          exact absurd rfl h37
theorem c_candidates (hC : RepC μ σ) (hok : stOk σ) : Ctr G mX10_candidates [.ref 0] (Hp μ) (V1 (vi (whichN σ : Nat)) (fun μ' => Off 153 3 μ μ')) := by
  refine Ctr.of ?_
  refine E_iconst dX10_candidates_0 ?_
  refine E_istore_n dX10_candidates_1 ?_
  refine E_iconst dX10_candidates_2 ?_
  refine E_istore_n dX10_candidates_3 ?_
  exact cand_loop hC hok 6 0 μ (by omega) Off.rf
theorem c_which (hC : RepC μ σ) (hok : stOk σ) : Ctr G mX10_which [.ref 0] (Hp μ) (CQ μ ((whichN σ : Nat), σ)) := by
  refine Ctr.of ?_
  refine E_aload_n dX10_which_0 rfl ?_
  refine E_callVW dX10_which_1 lkX10_246 (Hp_get sk_0) (c_candidates hC hok) ?_
  intro μ1 a3
  refine E_iret dX10_which_4 ?_
  exact ⟨rfl, _, rfl, hC.off a3 (by omega), fun q hq => a3 q (by omega)⟩
theorem c_sees {m v : Int} (hm : -2147483648 ≤ m ∧ m < 2147483648) (hv : -9223372036854775808 ≤ v ∧ v < 9223372036854775808) (hC : RepC μ σ) (hok : stOk σ) : Ctr G mX10_sees [.ref 0, vi m, vl v] (Hp μ) (CQ μ (sSees σ m v)) := by
  refine Ctr.of ?_
  have hso := c_isOrder (G := G) (M := Hp μ) hm
  have k5 := hC.2.2.2.2
  have k6 := k5.1
  have k7 := k5.2.1
  by_cases q1 : 2 ≤ m ∧ m ≤ 12
  · rw [cif_pos q1] at hso
    by_cases q2 : 0 ≤ v
    · rw [show sSees σ m v = _ from cif_neg (not_not_intro ⟨q1, q2⟩)]
      by_cases q3 : 6 ≤ σ.2.2.2.2.length
      · rw [cif_pos q3]
        refine E_iload_n dX10_sees_0 rfl ?_
        refine E_callSR dX10_sees_1 lkX10_221 (hso) ?_
        refine E_if_eq 13 dX10_sees_4 (fun h4 => ?_) (fun h4 => ?_)
        · -- 13
          first | exact absurd h4 (by decide) | (exfalso; omega)
        · -- 7
          refine E_lload_n dX10_sees_7 rfl ?_
          refine E_lconst0 dX10_sees_8 ?_
          refine E_lcmp_ge 15 dX10_sees_9 dX10_sees_10 (fun h9 => ?_) (fun h9 => ?_)
          · -- 15
            refine E_aload_n dX10_sees_15 rfl ?_
            refine GX10_41 sk_0 dX10_sees_16 ?_
            refine GX10_241 sk_147 dX10_sees_19 ?_
            refine E_bipush dX10_sees_22 ?_
            refine E_icmp_lt 30 dX10_sees_24 (fun h24 => ?_) (fun h24 => ?_)
            · -- 30
              exfalso; omega
            · -- 27
              refine E_bipush dX10_sees_27 ?_
              refine E_iret dX10_sees_29 ?_
              exact ⟨rfl, _, rfl, hC, fun _ _ => rfl⟩
          · -- 13
            first | exact absurd h4 (by decide) | (exfalso; omega)
      · rw [cif_neg q3]
        refine E_iload_n dX10_sees_0 rfl ?_
        refine E_callSR dX10_sees_1 lkX10_221 (hso) ?_
        refine E_if_eq 13 dX10_sees_4 (fun h4 => ?_) (fun h4 => ?_)
        · -- 13
          first | exact absurd h4 (by decide) | (exfalso; omega)
        · -- 7
          refine E_lload_n dX10_sees_7 rfl ?_
          refine E_lconst0 dX10_sees_8 ?_
          refine E_lcmp_ge 15 dX10_sees_9 dX10_sees_10 (fun h9 => ?_) (fun h9 => ?_)
          · -- 15
            refine E_aload_n dX10_sees_15 rfl ?_
            refine GX10_41 sk_0 dX10_sees_16 ?_
            refine GX10_241 sk_147 dX10_sees_19 ?_
            refine E_bipush dX10_sees_22 ?_
            refine E_icmp_lt 30 dX10_sees_24 (fun h24 => ?_) (fun h24 => ?_)
            · -- 30
              refine E_aload_n dX10_sees_30 rfl ?_
              refine GX10_41 sk_0 dX10_sees_31 ?_
              refine E_iload_n dX10_sees_34 rfl ?_
              refine E_lload_n dX10_sees_35 rfl ?_
              refine E_callVV dX10_sees_36 lkX10_242 (Hp_get sk_147) (c_oadd k5 (by omega)) ?_
              rintro μ1 ⟨a1, a2⟩
              refine E_aload_n dX10_sees_39 rfl ?_
              refine GX10_41 sk_0 dX10_sees_40 ?_
              refine GX10_241 sk_147 dX10_sees_43 ?_
              rw [a1.1, show ((σ.2.2.2.2 ++ [(m, v)]).length : Int) = (σ.2.2.2.2.length : Int) + 1 by simp]
              refine E_iret dX10_sees_46 ?_
              exact ⟨rfl, _, rfl, ⟨hC.1.off a2 (by omega), hC.2.1.off a2 (by omega), hC.2.2.1.off a2 (by omega), hC.2.2.2.1.off a2 (by omega), a1⟩, fun q hq => a2 q (by omega)⟩
            · -- 27
              exfalso; omega
          · -- 13
            first | exact absurd h4 (by decide) | (exfalso; omega)
    · rw [show sSees σ m v = (-1, σ) from cif_pos (fun h => q2 h.2)]
      refine E_iload_n dX10_sees_0 rfl ?_
      refine E_callSR dX10_sees_1 lkX10_221 (hso) ?_
      refine E_if_eq 13 dX10_sees_4 (fun h4 => ?_) (fun h4 => ?_)
      · -- 13
        refine E_iconst dX10_sees_13 ?_
        refine E_iret dX10_sees_14 ?_
        exact ⟨rfl, _, rfl, hC, fun _ _ => rfl⟩
      · -- 7
        refine E_lload_n dX10_sees_7 rfl ?_
        refine E_lconst0 dX10_sees_8 ?_
        refine E_lcmp_ge 15 dX10_sees_9 dX10_sees_10 (fun h9 => ?_) (fun h9 => ?_)
        · -- 15
          exfalso; omega
        · -- 13
          refine E_iconst dX10_sees_13 ?_
          refine E_iret dX10_sees_14 ?_
          exact ⟨rfl, _, rfl, hC, fun _ _ => rfl⟩
  · rw [cif_neg q1] at hso
    rw [show sSees σ m v = (-1, σ) from cif_pos (fun h => q1 h.1)]
    refine E_iload_n dX10_sees_0 rfl ?_
    refine E_callSR dX10_sees_1 lkX10_221 (hso) ?_
    refine E_if_eq 13 dX10_sees_4 (fun h4 => ?_) (fun h4 => ?_)
    · -- 13
      refine E_iconst dX10_sees_13 ?_
      refine E_iret dX10_sees_14 ?_
      exact ⟨rfl, _, rfl, hC, fun _ _ => rfl⟩
    · -- 7
      exact absurd rfl h4
theorem c_forget (hC : RepC μ σ) : Ctr G mX10_forget [.ref 0] (Hp μ) (CQ μ (sForget σ)) := by
  refine Ctr.of ?_
  have k5 := hC.2.2.2.2
  have ho : Off 147 1 μ (up μ 147 2 0) := Off.rf.up (by omega) (by omega)
  refine E_aload_n dX10_forget_0 rfl ?_
  refine GX10_41 sk_0 dX10_forget_1 ?_
  refine GX10_241 sk_147 dX10_forget_4 ?_
  rw [k5.1]
  refine E_istore_n dX10_forget_7 ?_
  refine E_aload_n dX10_forget_8 rfl ?_
  refine GX10_41 sk_0 dX10_forget_9 ?_
  refine E_iconst dX10_forget_12 ?_
  refine PX10_241 sk_147 dX10_forget_13 ?_
  refine E_iload_n dX10_forget_16 rfl ?_
  refine E_iret dX10_forget_17 ?_
  exact ⟨rfl, _, rfl, ⟨hC.1.off ho (by omega), hC.2.1.off ho (by omega), hC.2.2.1.off ho (by omega), hC.2.2.2.1.off ho (by omega), ⟨by rw [up_r, if_pos rfl]; rfl, by simp [sForget], RepV.nil, RepV.nil⟩⟩, fun q hq => ho q (by omega)⟩
theorem gr_fill {m : Int} {s : Nat} {Q : QT} (hm : 2 ≤ m ∧ m ≤ 12) (hC : RepC μ σ) (hok : stOk σ) (hk : ∀ μ2 w, Off 153 10 μ μ2 → (∀ j : Nat, j < 6 → μ2 162 j = mapS (σ.1 j) m) → E G mX10_greatestClass (Zq G mX10_greatestClass Q) 0 0 26 [.ref 0, vi s, vi m, w, .retAddr 0, .retAddr 0, .retAddr 0, .retAddr 0] [] (Hp μ2)) : ∀ (d n : Nat) (μ' : Mem), n + d = 6 → Off 153 10 μ μ' → (∀ j : Nat, j < n → μ' 162 j = mapS (σ.1 j) m) →
    E G mX10_greatestClass (Zq G mX10_greatestClass Q) 0 0 2 [.ref 0, vi s, vi m, vi (n : Int), .retAddr 0, .retAddr 0, .retAddr 0, .retAddr 0] [] (Hp μ')
  | 0, n, μ', hn, ho, hv => by
    have : n = 6 := by omega
    subst this
    refine E_iload_n dX10_greatestClass_2 rfl ?_
    refine E_bipush dX10_greatestClass_3 ?_
    refine E_icmp_ge 26 dX10_greatestClass_5 (fun h5 => ?_) (fun h5 => ?_)
    · -- 26
      exact hk μ' _ ho hv
    · -- 8
      exfalso; omega
  | d + 1, n, μ', hn, ho, hv => by
    have q1 : isS (n : Int) := ⟨by omega, by omega⟩
    have hCm := hC.off ho (by omega)
    refine E_iload_n dX10_greatestClass_2 rfl ?_
    refine E_bipush dX10_greatestClass_3 ?_
    refine E_icmp_ge 26 dX10_greatestClass_5 (fun h5 => ?_) (fun h5 => ?_)
    · -- 26
      exfalso; omega
    · -- 8
      refine E_aload_n dX10_greatestClass_8 rfl ?_
      refine GX10_80 sk_0 dX10_greatestClass_9 ?_
      refine E_iload_n dX10_greatestClass_12 rfl ?_
      refine E_aload_n dX10_greatestClass_13 rfl ?_
      refine E_iload_n dX10_greatestClass_14 rfl ?_
      refine E_iload_n dX10_greatestClass_15 rfl ?_
      refine E_callVW dX10_greatestClass_16 lkX10_224 (Hp_get sk_0) (c_cyclicMaps (σ := σ) q1 hm (rep_at q1 hCm.1) (ok_at q1 hok.1)) ?_
      intro μ1 a3
      refine H_last sk_162 dX10_greatestClass_19 ?_
      refine E_iinc dX10_greatestClass_20 rfl ?_
      refine E_goto 2 dX10_greatestClass_23 ?_
      refine gr_fill hm hC hok hk d (n + 1) _ (by omega) ((ho.tr (a3.wide (by omega) (by omega))).up (by omega) (by omega)) (fun j hj => ?_)
      rw [up_r]
      split
      · next e => rw [show j = n by omega]; rfl
      · rw [a3 162 (by omega)]; exact hv j (by omega)
theorem gr_inner {m best : Int} {s i : Nat} {Q : QT} (hs : s < 64) (hi : i < 6) (hok : stOk σ) (hm : 2 ≤ m ∧ m ≤ 12) (hv : ∀ j : Nat, j < 6 → μ 162 j = mapS (σ.1 j) m) (hk : ∀ w6 w7, E G mX10_greatestClass (Zq G mX10_greatestClass Q) 0 0 105 [.ref 0, vi s, vi m, vi best, vi (i : Int), vi (clsN (fun j => mapS (σ.1 j) m) s i 6), w6, w7] [] (Hp μ)) : ∀ (d j : Nat) (w7 : Value), j + d = 6 →
    E G mX10_greatestClass (Zq G mX10_greatestClass Q) 0 0 44 [.ref 0, vi s, vi m, vi best, vi (i : Int), vi (clsN (fun j => mapS (σ.1 j) m) s i j), vi (j : Int), w7] [] (Hp μ)
  | 0, j, w7, hn => by
    have : j = 6 := by omega
    subst this
    refine E_iload dX10_greatestClass_44 rfl ?_
    refine E_bipush dX10_greatestClass_46 ?_
    refine E_icmp_ge 105 dX10_greatestClass_48 (fun h48 => ?_) (fun h48 => ?_)
    · -- 105
      exact hk _ _
    · -- 51
      exfalso; omega
  | d + 1, j, w7, hn => by
    have e1 := shr_ok ⟨s, hs⟩ ⟨i, hi⟩
    have e2 := shr_ok ⟨s, hs⟩ ⟨j, by omega⟩
    have b1 : s / 2 ^ i < 64 := Nat.lt_of_le_of_lt (Nat.div_le_self _ _) hs
    have b2 : s / 2 ^ j < 64 := Nat.lt_of_le_of_lt (Nat.div_le_self _ _) hs
    have b3 : (s / 2 ^ i &&& s / 2 ^ j) < 64 := Nat.lt_of_le_of_lt Nat.and_le_left b1
    have e3 := and_ok ⟨_, b1⟩ ⟨_, b2⟩
    have e4 := and_ok ⟨_, b3⟩ ⟨1, by omega⟩
    have r1 := mapC_rng (rk := rankC (σ.1 i)) (T := torC (σ.1 i)) hm (torC_len (hok.1 i hi)) (rankC_rng (hok.1 i hi)).2
    have r2 := mapC_rng (rk := rankC (σ.1 j)) (T := torC (σ.1 j)) hm (torC_len (hok.1 j (by omega))) (rankC_rng (hok.1 j (by omega))).2
    have v1 := hv i hi
    have v2 := hv j (by omega)
    have r1' : 1 ≤ mapS (σ.1 i) m ∧ mapS (σ.1 i) m ≤ 2218611106740436992 := r1
    have r2' : 1 ≤ mapS (σ.1 j) m ∧ mapS (σ.1 j) m ≤ 2218611106740436992 := r2
    have ht : tbN s i j ≤ 1 := Nat.and_le_right
    have yes : tb s i j = true → mapS (σ.1 i) m = mapS (σ.1 j) m → clsN (fun j => mapS (σ.1 j) m) s i (j + 1) = clsN (fun j => mapS (σ.1 j) m) s i j + 1 := fun a b => by simp only [clsN]; rw [cif_pos ⟨a, b⟩]
    have no : ¬ (tb s i j = true ∧ mapS (σ.1 i) m = mapS (σ.1 j) m) → clsN (fun j => mapS (σ.1 j) m) s i (j + 1) = clsN (fun j => mapS (σ.1 j) m) s i j := fun a => by simp only [clsN]; rw [cif_neg a]; omega
    have ih := gr_inner hs hi hok hm hv hk d (j + 1)
    have fin : ∀ (w : Value) (x : Int), x = clsN (fun j => mapS (σ.1 j) m) s i (j + 1) → E G mX10_greatestClass (Zq G mX10_greatestClass Q) 0 0 99 [.ref 0, vi s, vi m, vi best, vi (i : Int), vi x, vi (j : Int), w] [] (Hp μ) := by
      intro w x hx
      subst hx
      refine E_iinc dX10_greatestClass_99 rfl ?_
      refine E_goto 44 dX10_greatestClass_102 ?_
      exact ih w (by omega)
    by_cases hB : tbN s i j = 1
    · have hB2 : tb s i j = true := decide_eq_true hB
      rw [show ((s / 2 ^ i &&& s / 2 ^ j) &&& 1 : Nat) = 1 from hB] at e4
      refine E_iload dX10_greatestClass_44 rfl ?_
      refine E_bipush dX10_greatestClass_46 ?_
      refine E_icmp_ge 105 dX10_greatestClass_48 (fun h48 => ?_) (fun h48 => ?_)
      · -- 105
        exfalso; omega
      · -- 51
        refine E_iload_n dX10_greatestClass_51 rfl ?_
        refine E_iload dX10_greatestClass_52 rfl ?_
        refine E_ishr ((s / 2 ^ i : Nat)) dX10_greatestClass_54 (e1) ?_
        refine E_iload_n dX10_greatestClass_55 rfl ?_
        refine E_iload dX10_greatestClass_56 rfl ?_
        refine E_ishr ((s / 2 ^ j : Nat)) dX10_greatestClass_58 (e2) ?_
        refine E_iand ((s / 2 ^ i &&& s / 2 ^ j : Nat)) dX10_greatestClass_59 (e3) ?_
        refine E_iconst dX10_greatestClass_60 ?_
        refine E_iand ((1 : Nat)) dX10_greatestClass_61 (e4) ?_
        refine E_iconst dX10_greatestClass_62 ?_
        refine E_icmp_ne 70 dX10_greatestClass_63 (fun h63 => ?_) (fun h63 => ?_)
        · -- 70
          exact absurd rfl h63
        · -- 66
          refine E_iconst dX10_greatestClass_66 ?_
          refine E_goto 71 dX10_greatestClass_67 ?_
          refine E_istore dX10_greatestClass_71 ?_
          refine E_iload dX10_greatestClass_73 rfl ?_
          refine E_if_eq 99 dX10_greatestClass_75 (fun h75 => ?_) (fun h75 => ?_)
          · -- 99
            first | exact absurd h75 (by decide) | exact fin _ _ (no (fun h => h92 (by rw [v1, v2]; exact h.2))).symm | exact fin _ _ (yes hB2 (by rw [← v1, ← v2]; exact h92)).symm
          · -- 78
            refine E_aload_n dX10_greatestClass_78 rfl ?_
            refine GX10_80 sk_0 dX10_greatestClass_79 ?_
            refine E_iload dX10_greatestClass_82 rfl ?_
            refine H_lald sk_162 dX10_greatestClass_84 ?_
            refine E_aload_n dX10_greatestClass_85 rfl ?_
            refine GX10_80 sk_0 dX10_greatestClass_86 ?_
            refine E_iload dX10_greatestClass_89 rfl ?_
            refine H_lald sk_162 dX10_greatestClass_91 ?_
            refine E_lcmp_ne 99 dX10_greatestClass_92 dX10_greatestClass_93 (fun h92 => ?_) (fun h92 => ?_)
            · -- 99
              first | exact absurd h75 (by decide) | exact fin _ _ (no (fun h => h92 (by rw [v1, v2]; exact h.2))).symm | exact fin _ _ (yes hB2 (by rw [← v1, ← v2]; exact h92)).symm
            · -- 96
              refine E_iinc dX10_greatestClass_96 rfl ?_
              first | exact absurd h75 (by decide) | exact fin _ _ (no (fun h => h92 (by rw [v1, v2]; exact h.2))).symm | exact fin _ _ (yes hB2 (by rw [← v1, ← v2]; exact h92)).symm
    · have hB2 : ¬ tb s i j = true := fun h => hB (of_decide_eq_true h)
      rw [show ((s / 2 ^ i &&& s / 2 ^ j) &&& 1 : Nat) = 0 from by change tbN s i j = 0; omega] at e4
      refine E_iload dX10_greatestClass_44 rfl ?_
      refine E_bipush dX10_greatestClass_46 ?_
      refine E_icmp_ge 105 dX10_greatestClass_48 (fun h48 => ?_) (fun h48 => ?_)
      · -- 105
        exfalso; omega
      · -- 51
        refine E_iload_n dX10_greatestClass_51 rfl ?_
        refine E_iload dX10_greatestClass_52 rfl ?_
        refine E_ishr ((s / 2 ^ i : Nat)) dX10_greatestClass_54 (e1) ?_
        refine E_iload_n dX10_greatestClass_55 rfl ?_
        refine E_iload dX10_greatestClass_56 rfl ?_
        refine E_ishr ((s / 2 ^ j : Nat)) dX10_greatestClass_58 (e2) ?_
        refine E_iand ((s / 2 ^ i &&& s / 2 ^ j : Nat)) dX10_greatestClass_59 (e3) ?_
        refine E_iconst dX10_greatestClass_60 ?_
        refine E_iand ((0 : Nat)) dX10_greatestClass_61 (e4) ?_
        refine E_iconst dX10_greatestClass_62 ?_
        refine E_icmp_ne 70 dX10_greatestClass_63 (fun h63 => ?_) (fun h63 => ?_)
        · -- 70
          refine E_iconst dX10_greatestClass_70 ?_
          refine E_istore dX10_greatestClass_71 ?_
          refine E_iload dX10_greatestClass_73 rfl ?_
          refine E_if_eq 99 dX10_greatestClass_75 (fun h75 => ?_) (fun h75 => ?_)
          · -- 99
            exact fin _ _ (no (fun h => hB2 h.1)).symm
          · -- 78
            exact absurd rfl h75
        · -- 66
          exact absurd h63 (by decide)
theorem gr_outer {m : Int} {s : Nat} {P : Mem → Prop} (hs : s < 64) (hok : stOk σ) (hm : 2 ≤ m ∧ m ≤ 12) (hv : ∀ j : Nat, j < 6 → μ 162 j = mapS (σ.1 j) m) (hP : P μ) : ∀ (d i : Nat) (w5 w6 w7 : Value), i + d = 6 →
    E G mX10_greatestClass (Zq G mX10_greatestClass (V1 (vi (greatS σ s m)) P)) 0 0 31 [.ref 0, vi s, vi m, vi (grN (fun j => mapS (σ.1 j) m) s i), vi (i : Int), w5, w6, w7] [] (Hp μ)
  | 0, i, w5, w6, w7, hn => by
    have : i = 6 := by omega
    subst this
    refine E_iload dX10_greatestClass_31 rfl ?_
    refine E_bipush dX10_greatestClass_33 ?_
    refine E_icmp_ge 118 dX10_greatestClass_35 (fun h35 => ?_) (fun h35 => ?_)
    · -- 118
      refine E_iload_n dX10_greatestClass_118 rfl ?_
      refine E_iret dX10_greatestClass_119 ?_
      exact ⟨rfl, _, rfl, hP⟩
    · -- 38
      exfalso; omega
  | d + 1, i, w5, w6, w7, hn => by
    have r1 := grN_rng (fun j => mapS (σ.1 j) m) s i
    have r2 := clsN_rng (fun j => mapS (σ.1 j) m) s i 6
    have ih := gr_outer (P := P) hs hok hm hv hP d (i + 1)
    have fin : ∀ w6 w7, E G mX10_greatestClass (Zq G mX10_greatestClass (V1 (vi (greatS σ s m)) P)) 0 0 105 [.ref 0, vi s, vi m, vi (grN (fun j => mapS (σ.1 j) m) s i), vi (i : Int), vi (clsN (fun j => mapS (σ.1 j) m) s i 6), w6, w7] [] (Hp μ) := by
      intro w6 w7
      refine E_iload_n dX10_greatestClass_105 rfl ?_
      refine E_iload dX10_greatestClass_106 rfl ?_
      refine E_callSR dX10_greatestClass_108 lkX10_278 (c_max (x := grN (fun j => mapS (σ.1 j) m) s i) (z := clsN (fun j => mapS (σ.1 j) m) s i 6) (by omega) (by omega)) ?_
      refine E_istore_n dX10_greatestClass_111 ?_
      refine E_iinc dX10_greatestClass_112 rfl ?_
      refine E_goto 31 dX10_greatestClass_115 ?_
      exact ih _ _ _ (by omega)
    refine E_iload dX10_greatestClass_31 rfl ?_
    refine E_bipush dX10_greatestClass_33 ?_
    refine E_icmp_ge 118 dX10_greatestClass_35 (fun h35 => ?_) (fun h35 => ?_)
    · -- 118
      exfalso; omega
    · -- 38
      refine E_iconst dX10_greatestClass_38 ?_
      refine E_istore dX10_greatestClass_39 ?_
      refine E_iconst dX10_greatestClass_41 ?_
      refine E_istore dX10_greatestClass_42 ?_
      exact gr_inner hs (by omega) hok hm hv fin 6 0 _ (by omega)
theorem c_greatestClass {m : Int} {s : Nat} (hs : s < 64) (hm : 2 ≤ m ∧ m ≤ 12) (hC : RepC μ σ) (hok : stOk σ) : Ctr G mX10_greatestClass [.ref 0, vi s, vi m] (Hp μ) (V1 (vi (greatS σ s m)) (fun μ' => Off 153 10 μ μ')) := by
  refine Ctr.of ?_
  refine E_iconst dX10_greatestClass_0 ?_
  refine E_istore_n dX10_greatestClass_1 ?_
  refine gr_fill hm hC hok (fun μ2 w h1 h2 => ?_) 6 0 μ (by omega) Off.rf (fun j hj => by omega)
  refine E_iconst dX10_greatestClass_26 ?_
  refine E_istore_n dX10_greatestClass_27 ?_
  refine E_iconst dX10_greatestClass_28 ?_
  refine E_istore dX10_greatestClass_29 ?_
  exact gr_outer (P := fun μ' => Off 153 10 μ μ') hs hok hm h2 h1 6 0 _ _ _ (by omega)
theorem ask_loop {s : Nat} (hs : s = whichN σ) (hC : RepC μ σ) (hok : stOk σ) : ∀ (d n : Nat) (μ' : Mem) (w : Value), n + d = 11 → Off 153 10 μ μ' →
    E G mX10_ask (Zq G mX10_ask (CQ μ ((askN (fun m => greatS σ s m) 11).2, σ))) 0 0 24 [.ref 0, vi s, vi (askN (fun m => greatS σ s m) n).2, vi (askN (fun m => greatS σ s m) n).1, vi ((n : Int) + 2), w] [] (Hp μ')
  | 0, n, μ', w, hn, ho => by
    have : n = 11 := by omega
    subst this
    refine E_iload dX10_ask_24 rfl ?_
    refine E_bipush dX10_ask_26 ?_
    refine E_icmp_gt 58 dX10_ask_28 (fun h28 => ?_) (fun h28 => ?_)
    · -- 58
      refine E_iload_n dX10_ask_58 rfl ?_
      refine E_iret dX10_ask_59 ?_
      exact ⟨rfl, _, rfl, hC.off ho (by omega), fun q hq => ho q (by omega)⟩
    · -- 31
      exfalso; omega
  | d + 1, n, μ', w, hn, ho => by
    have hCm := hC.off ho (by omega)
    have h64 : s < 64 := by rw [hs]; exact whichN_lt σ
    have r1 := grN_rng (fun i => mapS (σ.1 i) ((n : Int) + 2)) s 6
    have r1' : 0 ≤ greatS σ s ((n : Int) + 2) ∧ greatS σ s ((n : Int) + 2) ≤ 6 := r1
    have r2 : ∀ n : Nat, 0 ≤ (askN (fun m => greatS σ s m) n).1 ∧ (askN (fun m => greatS σ s m) n).1 ≤ 7 := by
      intro n
      induction n with
      | zero => simp [askN]
      | succ n ih =>
        have r : 0 ≤ greatS σ s ((n : Int) + 2) ∧ greatS σ s ((n : Int) + 2) ≤ 6 := grN_rng (fun i => mapS (σ.1 i) ((n : Int) + 2)) s 6
        simp only [askN]
        by_cases h : greatS σ s ((n : Int) + 2) < (askN (fun m => greatS σ s m) n).1
        · rw [cif_pos h]; exact ⟨r.1, by omega⟩
        · rw [cif_neg h]; exact ih
    have r3 := r2 n
    have ih := ask_loop hs hC hok d (n + 1)
    have e2 : (((n + 1 : Nat) : Int) + 2) = (n : Int) + 2 + 1 := by omega
    rw [e2] at ih
    by_cases h : greatS σ s ((n : Int) + 2) < (askN (fun m => greatS σ s m) n).1
    · rw [show askN (fun m => greatS σ s m) (n + 1) = (greatS σ s ((n : Int) + 2), (n : Int) + 2) from cif_pos h] at ih
      refine E_iload dX10_ask_24 rfl ?_
      refine E_bipush dX10_ask_26 ?_
      refine E_icmp_gt 58 dX10_ask_28 (fun h28 => ?_) (fun h28 => ?_)
      · -- 58
        exfalso; omega
      · -- 31
        refine E_aload_n dX10_ask_31 rfl ?_
        refine E_iload_n dX10_ask_32 rfl ?_
        refine E_iload dX10_ask_33 rfl ?_
        refine E_callVW dX10_ask_35 lkX10_255 (Hp_get sk_0) (c_greatestClass (σ := σ) (m := (n : Int) + 2) h64 (by omega) hCm hok) ?_
        intro μ1 a3
        refine E_istore dX10_ask_38 ?_
        refine E_iload dX10_ask_40 rfl ?_
        refine E_iload_n dX10_ask_42 rfl ?_
        refine E_icmp_ge 52 dX10_ask_43 (fun h43 => ?_) (fun h43 => ?_)
        · -- 52
          first | exact absurd h (by omega) | exact E_iinc dX10_ask_52 rfl (E_goto 24 dX10_ask_55 (ih μ1 _ (by omega) (ho.tr a3)))
        · -- 46
          refine E_iload dX10_ask_46 rfl ?_
          refine E_istore_n dX10_ask_48 ?_
          refine E_iload dX10_ask_49 rfl ?_
          refine E_istore_n dX10_ask_51 ?_
          first | exact absurd h (by omega) | exact E_iinc dX10_ask_52 rfl (E_goto 24 dX10_ask_55 (ih μ1 _ (by omega) (ho.tr a3)))
    · rw [show askN (fun m => greatS σ s m) (n + 1) = askN (fun m => greatS σ s m) n from cif_neg h] at ih
      refine E_iload dX10_ask_24 rfl ?_
      refine E_bipush dX10_ask_26 ?_
      refine E_icmp_gt 58 dX10_ask_28 (fun h28 => ?_) (fun h28 => ?_)
      · -- 58
        exfalso; omega
      · -- 31
        refine E_aload_n dX10_ask_31 rfl ?_
        refine E_iload_n dX10_ask_32 rfl ?_
        refine E_iload dX10_ask_33 rfl ?_
        refine E_callVW dX10_ask_35 lkX10_255 (Hp_get sk_0) (c_greatestClass (σ := σ) (m := (n : Int) + 2) h64 (by omega) hCm hok) ?_
        intro μ1 a3
        refine E_istore dX10_ask_38 ?_
        refine E_iload dX10_ask_40 rfl ?_
        refine E_iload_n dX10_ask_42 rfl ?_
        refine E_icmp_ge 52 dX10_ask_43 (fun h43 => ?_) (fun h43 => ?_)
        · -- 52
          refine E_iinc dX10_ask_52 rfl ?_
          refine E_goto 24 dX10_ask_55 ?_
          exact ih μ1 _ (by omega) (ho.tr a3)
        · -- 46
          exact absurd h43 (by omega)
theorem c_ask (hC : RepC μ σ) (hok : stOk σ) : Ctr G mX10_ask [.ref 0] (Hp μ) (CQ μ (aAsk σ, σ)) := by
  refine Ctr.of ?_
  have hb := c_bitCount (G := G) (M := Hp μ) (whichN_lt σ)
  have r : 0 ≤ bc (whichN σ) ∧ bc (whichN σ) ≤ 6 := by unfold bc; omega
  by_cases q : bc (whichN σ) < 2
  · rw [show aAsk σ = -9 from cif_pos q]
    refine E_aload_n dX10_ask_0 rfl ?_
    refine E_callVW dX10_ask_1 lkX10_246 (Hp_get sk_0) (c_candidates hC hok) ?_
    intro μ1 a3
    refine E_istore_n dX10_ask_4 ?_
    refine E_iload_n dX10_ask_5 rfl ?_
    refine E_callSR dX10_ask_6 lkX10_249 (c_bitCount (whichN_lt σ)) ?_
    refine E_iconst dX10_ask_9 ?_
    refine E_icmp_ge 16 dX10_ask_10 (fun h10 => ?_) (fun h10 => ?_)
    · -- 16
      exfalso; omega
    · -- 13
      refine E_bipush dX10_ask_13 ?_
      refine E_iret dX10_ask_15 ?_
      exact ⟨rfl, _, rfl, hC.off a3 (by omega), fun q hq => a3 q (by omega)⟩
  · rw [show aAsk σ = _ from cif_neg q]
    refine E_aload_n dX10_ask_0 rfl ?_
    refine E_callVW dX10_ask_1 lkX10_246 (Hp_get sk_0) (c_candidates hC hok) ?_
    intro μ1 a3
    refine E_istore_n dX10_ask_4 ?_
    refine E_iload_n dX10_ask_5 rfl ?_
    refine E_callSR dX10_ask_6 lkX10_249 (c_bitCount (whichN_lt σ)) ?_
    refine E_iconst dX10_ask_9 ?_
    refine E_icmp_ge 16 dX10_ask_10 (fun h10 => ?_) (fun h10 => ?_)
    · -- 16
      refine E_iconst dX10_ask_16 ?_
      refine E_istore_n dX10_ask_17 ?_
      refine E_bipush dX10_ask_18 ?_
      refine E_istore_n dX10_ask_20 ?_
      refine E_iconst dX10_ask_21 ?_
      refine E_istore dX10_ask_22 ?_
      exact ask_loop (μ := μ) rfl hC hok 11 0 μ1 _ (by omega) (a3.wide (by omega) (by omega))
    · -- 13
      exfalso; omega
theorem im_at {k : Int} (hk : 0 ≤ k ∧ k < 2) : [163, 183][k.toNat]? = some (163 + 20 * k.toNat) := by
  rcases (show k = 0 ∨ k = 1 by omega) with rfl | rfl <;> rfl
theorem isSh_im {k : Int} (hk : 0 ≤ k ∧ k < 2) : isSh (163 + 20 * k.toNat) := isSh_i k.toNat (by omega)
theorem c_keep {k : Int} (hk : -2147483648 ≤ k ∧ k < 2147483648) (hC : RepC μ σ) (hok : stOk σ) : Ctr G mX10_keep [.ref 0, vi k] (Hp μ) (CQ μ (sKeep σ k)) := by
  refine Ctr.of ?_
  by_cases q : 0 ≤ k ∧ k < 2
  · rw [show sKeep σ k = _ from cif_pos q]
    have hg := isSh_im q
    refine E_iload_n dX10_keep_0 rfl ?_
    refine E_if_lt 9 dX10_keep_1 (fun h1 => ?_) (fun h1 => ?_)
    · -- 9
      exfalso; omega
    · -- 4
      refine E_iload_n dX10_keep_4 rfl ?_
      refine E_iconst dX10_keep_5 ?_
      refine E_icmp_lt 11 dX10_keep_6 (fun h6 => ?_) (fun h6 => ?_)
      · -- 11
        refine E_aload_n dX10_keep_11 rfl ?_
        refine GX10_23 sk_0 dX10_keep_12 ?_
        refine E_iload_n dX10_keep_15 rfl ?_
        refine H_aald3 sk_143 dX10_keep_16 (im_at q) ?_
        refine E_aload_n dX10_keep_17 rfl ?_
        refine GX10_10 sk_0 dX10_keep_18 ?_
        refine E_callVV dX10_keep_21 lkX10_258 (Hp_get hg.1) (c_shcopy hg isSh_1 (by omega) hC.1 hok.1) ?_
        rintro μ1 ⟨a1, a2⟩
        refine E_aload_n dX10_keep_24 rfl ?_
        refine GX10_27 sk_0 dX10_keep_25 ?_
        refine E_iload_n dX10_keep_28 rfl ?_
        refine E_iconst dX10_keep_29 ?_
        refine H_zast sk_144 dX10_keep_30 (by first | exact Or.inl rfl | exact Or.inr rfl | omega) ?_
        have u1 : ∀ q : Nat, q ≠ 144 → up μ1 144 k 1 q = μ1 q := fun q hq => up_ne q (by omega)
        refine E_aload_n dX10_keep_31 rfl ?_
        refine GX10_10 sk_0 dX10_keep_32 ?_
        refine E_callVR dX10_keep_35 lkX10_260 (Hp_get sk_1) (c_allFibres isSh_1 ((hC.1.off a2 (by omega)).off (Off.rf.up (lo := 144) (n := 1) (by omega) (by omega)) (by omega)) hok.1) ?_
        refine E_iret dX10_keep_38 ?_
        have u2 : Off 144 1 μ1 (up μ1 144 k 1) := Off.rf.up (by omega) (by omega)
        refine ⟨rfl, _, rfl, ⟨(hC.1.off a2 (by omega)).off u2 (by omega), (hC.2.1.off a2 (by omega)).off u2 (by omega), fun j hj => ?_, (hC.2.2.2.1.off a2 (by omega)).off u2 (by omega), (hC.2.2.2.2.off a2 (by omega)).off u2 (by omega)⟩, fun q hq => by rw [u2 q (by omega), a2 q (by omega)]⟩
        obtain ⟨d1, d2⟩ := hC.2.2.1 j hj
        by_cases e : j = k.toNat
        · subst e
          refine ⟨fun h => by simp at h, fun g hg => ?_⟩
          simp only [if_pos, Option.some.injEq] at hg
          subst hg
          exact ⟨by rw [up_r, if_pos (by omega)], a1.off u2 (by omega)⟩
        · have e2 : μ1 144 j = μ 144 j := by rw [a2 144 (by omega)]
          refine ⟨fun h => ?_, fun g hg => ?_⟩
          · simp only [if_neg e] at h
            rw [up_r, if_neg (by omega), e2]; exact d1 h
          · simp only [if_neg e] at hg
            obtain ⟨d3, d4⟩ := d2 g hg
            exact ⟨by rw [up_r, if_neg (by omega), e2]; exact d3, (d4.off a2 (by omega)).off u2 (by omega)⟩
      · -- 9
        exfalso; omega
  · rw [show sKeep σ k = (-1, σ) from cif_neg q]
    refine E_iload_n dX10_keep_0 rfl ?_
    refine E_if_lt 9 dX10_keep_1 (fun h1 => ?_) (fun h1 => ?_)
    · -- 9
      refine E_iconst dX10_keep_9 ?_
      refine E_iret dX10_keep_10 ?_
      exact ⟨rfl, _, rfl, hC, fun _ _ => rfl⟩
    · -- 4
      refine E_iload_n dX10_keep_4 rfl ?_
      refine E_iconst dX10_keep_5 ?_
      refine E_icmp_lt 11 dX10_keep_6 (fun h6 => ?_) (fun h6 => ?_)
      · -- 11
        exfalso; omega
      · -- 9
        refine E_iconst dX10_keep_9 ?_
        refine E_iret dX10_keep_10 ?_
        exact ⟨rfl, _, rfl, hC, fun _ _ => rfl⟩
theorem c_back {k : Int} (hk : -2147483648 ≤ k ∧ k < 2147483648) (hC : RepC μ σ) (hok : stOk σ) : Ctr G mX10_back [.ref 0, vi k] (Hp μ) (CQ μ (sBack σ k)) := by
  refine Ctr.of ?_
  by_cases q : 0 ≤ k ∧ k < 2
  · have hg := isSh_im q
    obtain ⟨d1, d2⟩ := hC.2.2.1 k.toNat (by omega)
    rw [show ((k.toNat : Nat) : Int) = k by omega] at d1 d2
    cases hm : σ.2.2.1 k.toNat with
    | none =>
      have d3 := d1 hm
      rw [show sBack σ k = (-2, σ) from (cif_pos q).trans (by rw [hm])]
      refine E_iload_n dX10_back_0 rfl ?_
      refine E_if_lt 9 dX10_back_1 (fun h1 => ?_) (fun h1 => ?_)
      · -- 9
        exfalso; omega
      · -- 4
        refine E_iload_n dX10_back_4 rfl ?_
        refine E_iconst dX10_back_5 ?_
        refine E_icmp_lt 11 dX10_back_6 (fun h6 => ?_) (fun h6 => ?_)
        · -- 11
          refine E_aload_n dX10_back_11 rfl ?_
          refine GX10_27 sk_0 dX10_back_12 ?_
          refine E_iload_n dX10_back_15 rfl ?_
          refine H_zald sk_144 dX10_back_16 ?_
          rw [d3]
          refine E_if_ne 23 dX10_back_17 (fun h17 => ?_) (fun h17 => ?_)
          · -- 23
            exact absurd rfl h17
          · -- 20
            refine E_bipush dX10_back_20 ?_
            refine E_iret dX10_back_22 ?_
            exact ⟨rfl, _, rfl, hC, fun _ _ => rfl⟩
        · -- 9
          exfalso; omega
    | some g =>
      obtain ⟨d3, d4⟩ := d2 g hm
      have hgo := hok.2.2.2.1 k.toNat g hm
      rw [show sBack σ k = (sumF g 6, g, [], σ.2.2.1, σ.2.2.2.1, σ.2.2.2.2) from (cif_pos q).trans (by rw [hm])]
      refine E_iload_n dX10_back_0 rfl ?_
      refine E_if_lt 9 dX10_back_1 (fun h1 => ?_) (fun h1 => ?_)
      · -- 9
        exfalso; omega
      · -- 4
        refine E_iload_n dX10_back_4 rfl ?_
        refine E_iconst dX10_back_5 ?_
        refine E_icmp_lt 11 dX10_back_6 (fun h6 => ?_) (fun h6 => ?_)
        · -- 11
          refine E_aload_n dX10_back_11 rfl ?_
          refine GX10_27 sk_0 dX10_back_12 ?_
          refine E_iload_n dX10_back_15 rfl ?_
          refine H_zald sk_144 dX10_back_16 ?_
          rw [d3]
          refine E_if_ne 23 dX10_back_17 (fun h17 => ?_) (fun h17 => ?_)
          · -- 23
            refine E_aload_n dX10_back_23 rfl ?_
            refine GX10_10 sk_0 dX10_back_24 ?_
            refine E_aload_n dX10_back_27 rfl ?_
            refine GX10_23 sk_0 dX10_back_28 ?_
            refine E_iload_n dX10_back_31 rfl ?_
            refine H_aald3 sk_143 dX10_back_32 (im_at q) ?_
            refine E_callVV dX10_back_33 lkX10_258 (Hp_get sk_1) (c_shcopy isSh_1 hg (by omega) d4 hgo) ?_
            rintro μ1 ⟨a1, a2⟩
            refine E_aload_n dX10_back_36 rfl ?_
            refine GX10_19 sk_0 dX10_back_37 ?_
            refine E_iconst dX10_back_40 ?_
            refine PX10_160 sk_21 dX10_back_41 ?_
            have u1 : Off 21 1 μ1 (up μ1 21 2 0) := Off.rf.up (by omega) (by omega)
            refine E_aload_n dX10_back_44 rfl ?_
            refine GX10_10 sk_0 dX10_back_45 ?_
            refine E_callVR dX10_back_48 lkX10_260 (Hp_get sk_1) (c_allFibres isSh_1 (a1.off u1 (by omega)) hgo) ?_
            refine E_iret dX10_back_51 ?_
            refine ⟨rfl, _, rfl, ⟨a1.off u1 (by omega), ?_, (hC.2.2.1.off a2 (by omega)).off u1 (by omega), (hC.2.2.2.1.off a2 (by omega)).off u1 (by omega), (hC.2.2.2.2.off a2 (by omega)).off u1 (by omega)⟩, fun q hq => by rw [u1 q (by omega), a2 q (by omega)]⟩
            obtain ⟨nx, e1, e2, e3, e4, e5⟩ := hC.2.1
            exact ⟨nx, e1, by rw [up_r, if_neg (by decide), a2 21 (by omega)]; exact e2, by rw [up_r, if_pos rfl]; rfl, by simp, fun j sh hj => by simp at hj⟩
          · -- 20
            exact absurd h17 (by decide)
        · -- 9
          exfalso; omega
  · rw [show sBack σ k = (-1, σ) from cif_neg q]
    refine E_iload_n dX10_back_0 rfl ?_
    refine E_if_lt 9 dX10_back_1 (fun h1 => ?_) (fun h1 => ?_)
    · -- 9
      refine E_iconst dX10_back_9 ?_
      refine E_iret dX10_back_10 ?_
      exact ⟨rfl, _, rfl, hC, fun _ _ => rfl⟩
    · -- 4
      refine E_iload_n dX10_back_4 rfl ?_
      refine E_iconst dX10_back_5 ?_
      refine E_icmp_lt 11 dX10_back_6 (fun h6 => ?_) (fun h6 => ?_)
      · -- 11
        exfalso; omega
      · -- 9
        refine E_iconst dX10_back_9 ?_
        refine E_iret dX10_back_10 ?_
        exact ⟨rfl, _, rfl, hC, fun _ _ => rfl⟩
theorem c_count {w : Int} (hw : -2147483648 ≤ w ∧ w < 2147483648) (hC : RepC μ σ) (hok : stOk σ) : Ctr G mX10_count [.ref 0, vi w] (Hp μ) (CQ μ (aCount σ w, σ)) := by
  refine Ctr.of ?_
  by_cases w0 : w = 0
  · subst w0
    rw [show aCount σ 0 = _ from cif_pos rfl]
    refine E_iload_n dX10_count_0 rfl ?_
    refine E_tin 32 dX10_count_1 (by omega) (by omega) (by omega) rfl rfl ?_
    refine E_aload_n dX10_count_32 rfl ?_
    refine GX10_10 sk_0 dX10_count_33 ?_
    refine E_callVR dX10_count_36 lkX10_260 (Hp_get sk_1) (c_allFibres isSh_1 hC.1 hok.1) ?_
    refine E_iret dX10_count_39 ?_
    exact ⟨rfl, _, rfl, hC, fun _ _ => rfl⟩
  by_cases w1 : w = 1
  · subst w1
    rw [show aCount σ 1 = _ from (cif_neg w0).trans (cif_pos rfl)]
    refine E_iload_n dX10_count_0 rfl ?_
    refine E_tin 40 dX10_count_1 (by omega) (by omega) (by omega) rfl rfl ?_
    refine E_aload_n dX10_count_40 rfl ?_
    refine GX10_41 sk_0 dX10_count_41 ?_
    refine GX10_241 sk_147 dX10_count_44 ?_
    rw [hC.2.2.2.2.1]
    refine E_iret dX10_count_47 ?_
    exact ⟨rfl, _, rfl, hC, fun _ _ => rfl⟩
  by_cases w2 : w = 2
  · subst w2
    rw [show aCount σ 2 = _ from (cif_neg w0).trans ((cif_neg w1).trans (cif_pos rfl))]
    refine E_iload_n dX10_count_0 rfl ?_
    refine E_tin 48 dX10_count_1 (by omega) (by omega) (by omega) rfl rfl ?_
    refine E_aload_n dX10_count_48 rfl ?_
    refine GX10_34 sk_0 dX10_count_49 ?_
    refine GX10_84 sk_145 dX10_count_52 ?_
    rw [hC.2.2.2.1.1]
    refine E_iret dX10_count_55 ?_
    exact ⟨rfl, _, rfl, hC, fun _ _ => rfl⟩
  by_cases w3 : w = 3
  · subst w3
    rw [show aCount σ 3 = _ from (cif_neg w0).trans ((cif_neg w1).trans ((cif_neg w2).trans (cif_pos rfl)))]
    obtain ⟨nx, e1, e2, e3, -⟩ := id hC.2.1
    refine E_iload_n dX10_count_0 rfl ?_
    refine E_tin 56 dX10_count_1 (by omega) (by omega) (by omega) rfl rfl ?_
    refine E_aload_n dX10_count_56 rfl ?_
    refine GX10_19 sk_0 dX10_count_57 ?_
    refine GX10_160 sk_21 dX10_count_60 ?_
    rw [e3]
    refine E_iret dX10_count_63 ?_
    exact ⟨rfl, _, rfl, hC, fun _ _ => rfl⟩
  rw [show aCount σ w = -1 from (cif_neg w0).trans ((cif_neg w1).trans ((cif_neg w2).trans (cif_neg w3)))]
  refine E_iload_n dX10_count_0 rfl ?_
  refine E_tout 64 dX10_count_1 (by omega) (by omega) rfl ?_
  refine E_iconst dX10_count_64 ?_
  refine E_iret dX10_count_65 ?_
  exact ⟨rfl, _, rfl, hC, fun _ _ => rfl⟩
end SEEN
