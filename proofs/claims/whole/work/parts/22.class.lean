/-! FibredSpaces: its calls against a pure state -/
abbrev Sh : Type := Nat → Sp
/-- shelf, shelves before the latest actions, images, text, observations -/
abbrev St : Type := Sh × List Sh × (Nat → Option Sh) × List Int × List (Int × Int)
def RepI (μ : Mem) (im : Nat → Option Sh) : Prop := ∀ k : Nat, k < 2 → (im k = none → μ 144 k = 0) ∧ ∀ g, im k = some g → μ 144 k = 1 ∧ RepSh μ (163 + 20 * k) g
def RepC (μ : Mem) (σ : St) : Prop := RepSh μ 1 σ.1 ∧ RepH μ σ.2.1 ∧ RepI μ σ.2.2.1 ∧ RepT μ σ.2.2.2.1 ∧ RepO μ σ.2.2.2.2
def stOk (σ : St) : Prop := shOk σ.1 ∧ (∀ p ∈ σ.2.1, shOk p) ∧ σ.2.1.length ≤ 6 ∧ (∀ k g, σ.2.2.1 k = some g → shOk g) ∧ txOk σ.2.2.2.1 ∧ σ.2.2.2.1.length ≤ 100 ∧ (∀ x ∈ σ.2.2.2.2, obOk x) ∧ σ.2.2.2.2.length ≤ 6
theorem RepH.off {μ μ' : Mem} {past : List Sh} {lo n : Nat} (h : RepH μ past) (ho : Off lo n μ μ') (hr : lo + n ≤ 21 ∨ 143 ≤ lo) : RepH μ' past := by
  obtain ⟨nx, h1, h2, h3, h4, h5⟩ := h
  exact ⟨nx, h1, by rw [ho 21 (by omega)]; exact h2, by rw [ho 21 (by omega)]; exact h3, h4, fun j sh hj => (h5 j sh hj).off ho (by omega)⟩
theorem RepI.off {μ μ' : Mem} {im : Nat → Option Sh} {lo n : Nat} (h : RepI μ im) (ho : Off lo n μ μ') (hr : lo + n ≤ 144 ∨ 145 ≤ lo ∧ lo + n ≤ 163 ∨ 203 ≤ lo) : RepI μ' im := by
  intro k hk
  obtain ⟨h1, h2⟩ := h k hk
  refine ⟨fun q => by rw [ho 144 (by omega)]; exact h1 q, fun g hg => ?_⟩
  obtain ⟨h3, h4⟩ := h2 g hg
  exact ⟨by rw [ho 144 (by omega)]; exact h3, h4.off ho (by omega)⟩
theorem RepT.off {μ μ' : Mem} {t : List Int} {lo n : Nat} (h : RepT μ t) (ho : Off lo n μ μ') (hr : lo + n ≤ 145 ∨ 147 ≤ lo) : RepT μ' t := ⟨by rw [ho 145 (by omega)]; exact h.1, h.2.1, h.2.2.kept (ho 146 (by omega))⟩
theorem RepO.off {μ μ' : Mem} {l : List (Int × Int)} {lo n : Nat} (h : RepO μ l) (ho : Off lo n μ μ') (hr : lo + n ≤ 147 ∨ 150 ≤ lo) : RepO μ' l := ⟨by rw [ho 147 (by omega)]; exact h.1, h.2.1, h.2.2.1.kept (ho 148 (by omega)), h.2.2.2.kept (ho 149 (by omega))⟩
theorem RepC.off {μ μ' : Mem} {σ : St} {lo n : Nat} (h : RepC μ σ) (ho : Off lo n μ μ') (hr : 150 ≤ lo ∧ lo + n ≤ 163 ∨ 203 ≤ lo) : RepC μ' σ := ⟨h.1.off ho (by omega), h.2.1.off ho (by omega), h.2.2.1.off ho (by omega), h.2.2.2.1.off ho (by omega), h.2.2.2.2.off ho (by omega)⟩
def CQ (μ : Mem) (R : Int × St) : QT := fun v M' => v = some (vi R.1) ∧ ∃ μ', M' = Hp μ' ∧ RepC μ' R.2 ∧ ∀ q : Nat, 203 ≤ q → μ' q = μ q
def CL (μ : Mem) (R : Int × St) : QT := fun v M' => v = some (vl R.1) ∧ ∃ μ', M' = Hp μ' ∧ RepC μ' R.2 ∧ ∀ q : Nat, 203 ≤ q → μ' q = μ q
def setSh (sh : Sh) (i : Nat) (d : Sp) : Sh := fun k => if k = i then d else sh k
def isS (i : Int) : Prop := 0 ≤ i ∧ i < 6
def fitD (d : Sp) : Prop := d.2.2.2.length ≤ 6 ∧ d.2.1 ≤ 4 ∧ -999 ≤ d.2.2.1 ∧ d.2.2.1 ≤ 999
/-- the end of an action -/
noncomputable def sSettle (σ : St) (i : Int) (d : Sp) (a : Int) : Int × St := cif (fitD d) (a, setSh σ.1 i.toNat d, (σ.1 :: σ.2.1).take 6, σ.2.2) (-3, σ)
noncomputable def sType (σ : St) (c : Int) : Int × St := cif (c < 0 ∨ 255 < c) (-1, σ) (cif (100 ≤ σ.2.2.2.1.length) (-3, σ) ((σ.2.2.2.1.length : Int) + 1, σ.1, σ.2.1, σ.2.2.1, σ.2.2.2.1 ++ [c], σ.2.2.2.2))
def sClear (σ : St) : Int × St := (σ.2.2.2.1.length, σ.1, σ.2.1, σ.2.2.1, [], σ.2.2.2.2)
noncomputable def sTells (σ : St) (i : Int) : Int × St := cif (¬ isS i) (-1, σ) (cif ((tellS σ.2.2.2.1).1 = true) (cif (fitD (tellS σ.2.2.2.1).2.2.2.2.2) ((tellS σ.2.2.2.1).2.2.1, setSh σ.1 i.toNat (tellS σ.2.2.2.1).2.2.2.2.2, (σ.1 :: σ.2.1).take 6, σ.2.2.1, [], σ.2.2.2.2) (-3, σ)) (-10 - ((σ.2.2.2.1.length : Int) - (tellS σ.2.2.2.1).2.1.length), σ))
def mulD (s : Sp) (m : Int) : Sp := putAll (s.1, s.2.1, s.2.2.1 * m, []) s.2.2.2 m
noncomputable def sMirrors (σ : St) (i : Int) : Int × St := cif (¬ isS i) (-1, σ) (sSettle σ i (mulD (σ.1 i.toNat) (-1)) (cif (mulD (σ.1 i.toNat) (-1) = σ.1 i.toNat) 1 0))
noncomputable def sJoins (σ : St) (i j k : Int) : Int × St := cif (¬ (isS i ∧ isS j ∧ isS k)) (-1, σ) (sSettle σ i (joinD (σ.1 j.toNat) (σ.1 k.toNat)) (joinD (σ.1 j.toNat) (σ.1 k.toNat)).2.2.2.length)
noncomputable def sFills (σ : St) (i a b : Int) : Int × St := cif (¬ (isS i ∧ 1 ≤ a ∧ a ≤ 30 ∧ -99 ≤ b ∧ b ≤ 99 ∧ Int.gcd a b = 1)) (-1, σ) (sSettle σ i (put (σ.1 i.toNat) a b) (put (σ.1 i.toNat) a b).2.2.2.length)
noncomputable def sDrills (σ : St) (i k : Int) : Int × St := cif (¬ (isS i ∧ 0 ≤ k ∧ k < (σ.1 i.toNat).2.2.2.length)) (-1, σ) (sSettle σ i (putAll ((σ.1 i.toNat).1, (σ.1 i.toNat).2.1, (σ.1 i.toNat).2.2.1, []) ((σ.1 i.toNat).2.2.2.eraseIdx k.toNat) 1) (putAll ((σ.1 i.toNat).1, (σ.1 i.toNat).2.1, (σ.1 i.toNat).2.2.1, []) ((σ.1 i.toNat).2.2.2.eraseIdx k.toNat) 1).2.2.2.length)
noncomputable def sTurnsOn (σ : St) (i m : Int) : Int × St := cif (¬ (isS i ∧ 2 ≤ m ∧ m ≤ 9)) (-1, σ) (cif (cop m (σ.1 i.toNat).2.2.2 = true) (sSettle σ i (mulD (σ.1 i.toNat) m) 1) (-2, σ))
noncomputable def sUnwraps (σ : St) (i m : Int) : Int × St := cif (¬ (isS i ∧ 2 ≤ m ∧ m ≤ 9)) (-1, σ) (cif (cop m (σ.1 i.toNat).2.2.2 = true ∧ ((σ.1 i.toNat).2.2.1 - carry m (σ.1 i.toNat).2.2.2) / m * m = (σ.1 i.toNat).2.2.1 - carry m (σ.1 i.toNat).2.2.2)
  (sSettle σ i ((σ.1 i.toNat).1, (σ.1 i.toNat).2.1, ((σ.1 i.toNat).2.2.1 - carry m (σ.1 i.toNat).2.2.2) / m, (putAll ((σ.1 i.toNat).1, (σ.1 i.toNat).2.1, 0, []) ((σ.1 i.toNat).2.2.2.map (prt m)) 1).2.2.2) 1) (-2, σ))
def covD (s : Sp) (n : Nat) : Sp := cov n s.2.2.2 (s.1, n * (s.2.1 - (s.1 + 1)) + (s.1 + 1), s.2.2.1 * n, [])
noncomputable def sUnrolls (σ : St) (i d : Int) : Int × St := cif (¬ (isS i ∧ 2 ≤ d ∧ d ≤ 3)) (-1, σ) (cif ((σ.1 i.toNat).2.1 < (σ.1 i.toNat).1 + 1) (-2, σ) (sSettle σ i (covD (σ.1 i.toNat) d.toNat) (covD (σ.1 i.toNat) d.toNat).2.2.2.length))
def sUndo (σ : St) : Int × St := match σ.2.1 with
  | [] => (-2, σ)
  | p :: t => (t.length, p, t, σ.2.2)
theorem put_sh (d : Sp) (a b : Int) : (put d a b).1 = d.1 ∧ (put d a b).2.1 = d.2.1 ∧ (put d a b).2.2.1 = d.2.2.1 + b / a := ⟨rfl, rfl, rfl⟩
theorem div_rng {x : Fib} {m : Int} (hx : fibOk x) (hm : -100 ≤ m ∧ m ≤ 100) : -100 ≤ x.2 * m / x.1 ∧ x.2 * m / x.1 ≤ 100 := by
  obtain ⟨x1, x2, x3, x4, -⟩ := hx
  have t1 := Int.mul_le_mul_of_nonneg_left hm.1 (show 0 ≤ x.2 by omega)
  have t2 := Int.mul_le_mul_of_nonneg_left hm.2 (show 0 ≤ x.2 by omega)
  exact ⟨Int.le_ediv_of_mul_le (by omega) (by omega), Int.ediv_le_of_le_mul (by omega) (by omega)⟩
theorem putAll_sh {m : Int} (hm : -100 ≤ m ∧ m ≤ 100) : ∀ (l : List Fib) (d : Sp), (∀ x ∈ l, fibOk x) → (putAll d l m).1 = d.1 ∧ (putAll d l m).2.1 = d.2.1 ∧ d.2.2.1 - 100 * l.length ≤ (putAll d l m).2.2.1 ∧ (putAll d l m).2.2.1 ≤ d.2.2.1 + 100 * l.length
  | [], d, _ => by simp [putAll]
  | x :: l, d, h => by
    have h1 := putAll_sh hm l (put d x.1 (x.2 * m)) (fun z hz => h z (List.mem_cons_of_mem _ hz))
    have h2 := div_rng (h x List.mem_cons_self) hm
    obtain ⟨e1, e2, e3⟩ := put_sh d x.1 (x.2 * m)
    rw [e1, e2, e3] at h1
    have e : putAll d (x :: l) m = putAll (put d x.1 (x.2 * m)) l m := rfl
    rw [e]
    simp only [List.length_cons]
    refine ⟨h1.1, h1.2.1, ?_, ?_⟩ <;> omega
theorem mulD_rng {s : Sp} {m : Int} (hok : spOk s) (hm : -9 ≤ m ∧ m ≤ 9) : (mulD s m).1 = s.1 ∧ (mulD s m).2.1 = s.2.1 ∧ -20000 ≤ (mulD s m).2.2.1 ∧ (mulD s m).2.2.1 ≤ 20000 := by
  have h1 := putAll_sh (m := m) (by omega) s.2.2.2 (s.1, s.2.1, s.2.2.1 * m, []) hok.2.2.2.2.2.2
  have h2 := hok.2.2.2.2.2.1
  have h3 : -8991 ≤ s.2.2.1 * m ∧ s.2.2.1 * m ≤ 8991 := by
    have a1 := hok.2.2.2.1
    have a2 := hok.2.2.2.2.1
    rcases (show 0 ≤ s.2.2.1 ∨ s.2.2.1 ≤ 0 by omega) with q | q
    · have t1 := Int.mul_le_mul_of_nonneg_left hm.1 q
      have t2 := Int.mul_le_mul_of_nonneg_left hm.2 q
      omega
    · have t1 := Int.mul_le_mul_of_nonpos_left q hm.1
      have t2 := Int.mul_le_mul_of_nonpos_left q hm.2
      omega
  simp only at h1
  unfold mulD
  omega
theorem putAll_len {m : Int} : ∀ (l : List Fib) (d : Sp), (putAll d l m).2.2.2.length ≤ d.2.2.2.length + l.length
  | [], d => by simp [putAll]
  | x :: l, d => by
    have h1 := putAll_len (m := m) l (put d x.1 (x.2 * m))
    have h2 : (put d x.1 (x.2 * m)).2.2.2.length ≤ d.2.2.2.length + 1 := by
      simp only [put]; split
      · rw [ins_len]; omega
      · omega
    have e : putAll d (x :: l) m = putAll (put d x.1 (x.2 * m)) l m := rfl
    rw [e, List.length_cons]; omega
section CLASS
variable {G : GT} {μ : Mem} {M : HV} {σ : St}
theorem c_isSpace {i : Int} (hi : -2147483648 ≤ i ∧ i < 2147483648) : Ctr G mX10_isSpace [vi i] M (R1 (vi (cif (isS i) 1 0)) M) := by
  refine Ctr.of ?_
  refine E_iload_n dX10_isSpace_0 rfl ?_
  refine E_if_lt 14 dX10_isSpace_1 (fun h1 => ?_) (fun h1 => ?_)
  · -- 14
    refine E_iconst dX10_isSpace_14 ?_
    refine E_zret dX10_isSpace_15 ?_ (by first | exact Or.inl rfl | exact Or.inr rfl | omega)
    first | (rw [cif_pos (show isS i from ⟨by omega, by omega⟩)]; exact ⟨rfl, rfl⟩) | (rw [cif_neg (show ¬ isS i from fun q => by have := q.1; have := q.2; omega)]; exact ⟨rfl, rfl⟩)
  · -- 4
    refine E_iload_n dX10_isSpace_4 rfl ?_
    refine E_bipush dX10_isSpace_5 ?_
    refine E_icmp_ge 14 dX10_isSpace_7 (fun h7 => ?_) (fun h7 => ?_)
    · -- 14
      refine E_iconst dX10_isSpace_14 ?_
      refine E_zret dX10_isSpace_15 ?_ (by first | exact Or.inl rfl | exact Or.inr rfl | omega)
      first | (rw [cif_pos (show isS i from ⟨by omega, by omega⟩)]; exact ⟨rfl, rfl⟩) | (rw [cif_neg (show ¬ isS i from fun q => by have := q.1; have := q.2; omega)]; exact ⟨rfl, rfl⟩)
    · -- 10
      refine E_iconst dX10_isSpace_10 ?_
      refine E_goto 15 dX10_isSpace_11 ?_
      refine E_zret dX10_isSpace_15 ?_ (by first | exact Or.inl rfl | exact Or.inr rfl | omega)
      first | (rw [cif_pos (show isS i from ⟨by omega, by omega⟩)]; exact ⟨rfl, rfl⟩) | (rw [cif_neg (show ¬ isS i from fun q => by have := q.1; have := q.2; omega)]; exact ⟨rfl, rfl⟩)
theorem c_isOrder {i : Int} (hi : -2147483648 ≤ i ∧ i < 2147483648) : Ctr G mX10_isOrder [vi i] M (R1 (vi (cif (2 ≤ i ∧ i ≤ 12) 1 0)) M) := by
  refine Ctr.of ?_
  refine E_iload_n dX10_isOrder_0 rfl ?_
  refine E_iconst dX10_isOrder_1 ?_
  refine E_icmp_lt 15 dX10_isOrder_2 (fun h2 => ?_) (fun h2 => ?_)
  · -- 15
    refine E_iconst dX10_isOrder_15 ?_
    refine E_zret dX10_isOrder_16 ?_ (by first | exact Or.inl rfl | exact Or.inr rfl | omega)
    first | (rw [cif_pos (show 2 ≤ i ∧ i ≤ 12 from ⟨by omega, by omega⟩)]; exact ⟨rfl, rfl⟩) | (rw [cif_neg (show ¬ (2 ≤ i ∧ i ≤ 12) from fun q => by omega)]; exact ⟨rfl, rfl⟩)
  · -- 5
    refine E_iload_n dX10_isOrder_5 rfl ?_
    refine E_bipush dX10_isOrder_6 ?_
    refine E_icmp_gt 15 dX10_isOrder_8 (fun h8 => ?_) (fun h8 => ?_)
    · -- 15
      refine E_iconst dX10_isOrder_15 ?_
      refine E_zret dX10_isOrder_16 ?_ (by first | exact Or.inl rfl | exact Or.inr rfl | omega)
      first | (rw [cif_pos (show 2 ≤ i ∧ i ≤ 12 from ⟨by omega, by omega⟩)]; exact ⟨rfl, rfl⟩) | (rw [cif_neg (show ¬ (2 ≤ i ∧ i ≤ 12) from fun q => by omega)]; exact ⟨rfl, rfl⟩)
    · -- 11
      refine E_iconst dX10_isOrder_11 ?_
      refine E_goto 16 dX10_isOrder_12 ?_
      refine E_zret dX10_isOrder_16 ?_ (by first | exact Or.inl rfl | exact Or.inr rfl | omega)
      first | (rw [cif_pos (show 2 ≤ i ∧ i ≤ 12 from ⟨by omega, by omega⟩)]; exact ⟨rfl, rfl⟩) | (rw [cif_neg (show ¬ (2 ≤ i ∧ i ≤ 12) from fun q => by omega)]; exact ⟨rfl, rfl⟩)
theorem sp_at {i : Int} (hi : isS i) : [3, 6, 9, 12, 15, 18][i.toNat]? = some (3 + 3 * i.toNat) := by
  have h1 := hi.1
  have h2 := hi.2
  rcases (show i.toNat = 0 ∨ i.toNat = 1 ∨ i.toNat = 2 ∨ i.toNat = 3 ∨ i.toNat = 4 ∨ i.toNat = 5 by omega) with h | h | h | h | h | h <;> rw [h] <;> rfl
theorem isSp_sh {i : Int} (hi : isS i) : isSp (3 + 3 * i.toNat) := by
  have := isSh_1.2.2 i.toNat (by have := hi.1; have := hi.2; omega)
  exact this
theorem rep_at {i : Int} (hi : isS i) {sh : Sh} (h : RepSh μ 1 sh) : RepS μ (3 + 3 * i.toNat) (sh i.toNat) := h i.toNat (by have := hi.1; have := hi.2; omega)
theorem ok_at {i : Int} (hi : isS i) {sh : Sh} (h : shOk sh) : spOk (sh i.toNat) := h i.toNat (by have := hi.1; have := hi.2; omega)
theorem at_lt {i : Int} (hi : isS i) : 3 + 3 * i.toNat + 3 ≤ 21 := by have := hi.1; have := hi.2; omega
theorem c_settle {i a : Int} {d : Sp} (hi : isS i) (hC : RepC μ σ) (hok : stOk σ) (hd : RepD μ 150 d) (k1 : -2147483648 < d.2.2.1 ∧ d.2.2.1 < 2147483648) (k2 : 0 ≤ d.2.1 ∧ d.2.1 < 1000) : Ctr G mX10_settle [.ref 0, vi i, vi a] (Hp μ) (CQ μ (sSettle σ i d a)) := by
  refine Ctr.of ?_
  have hq := isSp_sh hi
  have hlt := at_lt hi
  have hfit := c_fits (G := G) isSp_150 hd k1 k2
  obtain ⟨hC1, hC2, hC3, hC4, hC5⟩ := hC
  by_cases hf : fitD d
  · rw [show sSettle σ i d a = (a, setSh σ.1 i.toNat d, (σ.1 :: σ.2.1).take 6, σ.2.2) from cif_pos hf]
    rw [if_pos (show d.2.2.2.length ≤ 6 ∧ d.2.1 ≤ 4 ∧ -999 ≤ d.2.2.1 ∧ d.2.2.1 ≤ 999 from hf)] at hfit
    have hi1 := hi.1
    have hi2 := hi.2
    refine E_aload_n dX10_settle_0 rfl ?_
    refine GX10_48 sk_0 dX10_settle_1 ?_
    refine E_callVR dX10_settle_4 lkX10_263 (Hp_get sk_150) (hfit) ?_
    refine E_if_ne 13 dX10_settle_7 (fun h7 => ?_) (fun h7 => ?_)
    · -- 13
      refine E_aload_n dX10_settle_13 rfl ?_
      refine GX10_19 sk_0 dX10_settle_14 ?_
      refine E_aload_n dX10_settle_17 rfl ?_
      refine GX10_10 sk_0 dX10_settle_18 ?_
      refine E_callVV dX10_settle_21 lkX10_267 (Hp_get sk_21) (c_save hC1 hok.1 hC2) ?_
      rintro μ1 ⟨a1, a2⟩
      have b1 : RepS μ1 150 d := (hd.s hf.1).off a2 (by omega)
      refine E_aload_n dX10_settle_24 rfl ?_
      refine GX10_10 sk_0 dX10_settle_25 ?_
      refine GX10_104 sk_1 dX10_settle_28 ?_
      refine E_iload_n dX10_settle_31 rfl ?_
      refine H_aald4 sk_2 dX10_settle_32 (sp_at hi) ?_
      refine E_aload_n dX10_settle_33 rfl ?_
      refine GX10_48 sk_0 dX10_settle_34 ?_
      refine E_callVV dX10_settle_37 lkX10_129 (Hp_get hq.1) (c_copy hq isSp_150 (by omega) b1 hf.1) ?_
      rintro μ2 ⟨d1, d2⟩
      refine E_iload_n dX10_settle_40 rfl ?_
      refine E_iret dX10_settle_41 ?_
      refine ⟨rfl, _, rfl, ⟨fun k hk => ?_, a1.off d2 (by omega), (hC3.off a2 (by omega)).off d2 (by omega), (hC4.off a2 (by omega)).off d2 (by omega), (hC5.off a2 (by omega)).off d2 (by omega)⟩, fun q hq => by rw [d2 q (by omega), a2 q (by omega)]⟩
      simp only [setSh]
      split
      · next e => subst e; exact d1
      · exact (((hC1 k hk).off a2 (by omega)).off d2 (by omega))
    · -- 10
      exact absurd h7 (by decide)
  · rw [show sSettle σ i d a = (-3, σ) from cif_neg hf]
    rw [if_neg (show ¬ (d.2.2.2.length ≤ 6 ∧ d.2.1 ≤ 4 ∧ -999 ≤ d.2.2.1 ∧ d.2.2.1 ≤ 999) from hf)] at hfit
    refine E_aload_n dX10_settle_0 rfl ?_
    refine GX10_48 sk_0 dX10_settle_1 ?_
    refine E_callVR dX10_settle_4 lkX10_263 (Hp_get sk_150) (hfit) ?_
    refine E_if_ne 13 dX10_settle_7 (fun h7 => ?_) (fun h7 => ?_)
    · -- 13
      exact absurd rfl h7
    · -- 10
      refine E_bipush dX10_settle_10 ?_
      refine E_iret dX10_settle_12 ?_
      exact ⟨rfl, _, rfl, ⟨hC1, hC2, hC3, hC4, hC5⟩, fun _ _ => rfl⟩
theorem c_type {c : Int} (hc : -2147483648 ≤ c ∧ c < 2147483648) (hC : RepC μ σ) (hok : stOk σ) : Ctr G mX10_type [.ref 0, vi c] (Hp μ) (CQ μ (sType σ c)) := by
  refine Ctr.of ?_
  have k4 := hC.2.2.2.1
  have k5 := k4.1
  have k6 := k4.2.1
  by_cases q1 : c < 0 ∨ 255 < c
  · rw [show sType σ c = (-1, σ) from cif_pos q1]
    refine E_iload_n dX10_type_0 rfl ?_
    refine E_if_lt 11 dX10_type_1 (fun h1 => ?_) (fun h1 => ?_)
    · -- 11
      refine E_iconst dX10_type_11 ?_
      refine E_iret dX10_type_12 ?_
      exact ⟨rfl, _, rfl, hC, fun _ _ => rfl⟩
    · -- 4
      refine E_iload_n dX10_type_4 rfl ?_
      refine E_sipush dX10_type_5 ?_
      refine E_icmp_le 13 dX10_type_8 (fun h8 => ?_) (fun h8 => ?_)
      · -- 13
        exfalso; omega
      · -- 11
        refine E_iconst dX10_type_11 ?_
        refine E_iret dX10_type_12 ?_
        exact ⟨rfl, _, rfl, hC, fun _ _ => rfl⟩
  · have e1 : sType σ c = cif (100 ≤ σ.2.2.2.1.length) (-3, σ) ((σ.2.2.2.1.length : Int) + 1, σ.1, σ.2.1, σ.2.2.1, σ.2.2.2.1 ++ [c], σ.2.2.2.2) := cif_neg q1
    rw [e1]
    by_cases q2 : 100 ≤ σ.2.2.2.1.length
    · rw [cif_pos q2]
      refine E_iload_n dX10_type_0 rfl ?_
      refine E_if_lt 11 dX10_type_1 (fun h1 => ?_) (fun h1 => ?_)
      · -- 11
        exfalso; omega
      · -- 4
        refine E_iload_n dX10_type_4 rfl ?_
        refine E_sipush dX10_type_5 ?_
        refine E_icmp_le 13 dX10_type_8 (fun h8 => ?_) (fun h8 => ?_)
        · -- 13
          refine E_aload_n dX10_type_13 rfl ?_
          refine GX10_34 sk_0 dX10_type_14 ?_
          refine GX10_84 sk_145 dX10_type_17 ?_
          refine E_bipush dX10_type_20 ?_
          refine E_icmp_lt 28 dX10_type_22 (fun h22 => ?_) (fun h22 => ?_)
          · -- 28
            exfalso; omega
          · -- 25
            refine E_bipush dX10_type_25 ?_
            refine E_iret dX10_type_27 ?_
            exact ⟨rfl, _, rfl, hC, fun _ _ => rfl⟩
        · -- 11
          exfalso; omega
    · rw [cif_neg q2]
      refine E_iload_n dX10_type_0 rfl ?_
      refine E_if_lt 11 dX10_type_1 (fun h1 => ?_) (fun h1 => ?_)
      · -- 11
        exfalso; omega
      · -- 4
        refine E_iload_n dX10_type_4 rfl ?_
        refine E_sipush dX10_type_5 ?_
        refine E_icmp_le 13 dX10_type_8 (fun h8 => ?_) (fun h8 => ?_)
        · -- 13
          refine E_aload_n dX10_type_13 rfl ?_
          refine GX10_34 sk_0 dX10_type_14 ?_
          refine GX10_84 sk_145 dX10_type_17 ?_
          refine E_bipush dX10_type_20 ?_
          refine E_icmp_lt 28 dX10_type_22 (fun h22 => ?_) (fun h22 => ?_)
          · -- 28
            refine E_aload_n dX10_type_28 rfl ?_
            refine GX10_34 sk_0 dX10_type_29 ?_
            refine E_iload_n dX10_type_32 rfl ?_
            refine E_callVV dX10_type_33 lkX10_88 (Hp_get sk_145) (c_append k4 (by omega)) ?_
            rintro μ1 ⟨a1, a2⟩
            refine E_aload_n dX10_type_36 rfl ?_
            refine GX10_34 sk_0 dX10_type_37 ?_
            refine GX10_84 sk_145 dX10_type_40 ?_
            rw [a1.1, show ((σ.2.2.2.1 ++ [c]).length : Int) = (σ.2.2.2.1.length : Int) + 1 by simp]
            refine E_iret dX10_type_43 ?_
            exact ⟨rfl, _, rfl, ⟨hC.1.off a2 (by omega), hC.2.1.off a2 (by omega), hC.2.2.1.off a2 (by omega), a1, hC.2.2.2.2.off a2 (by omega)⟩, fun q hq => a2 q (by omega)⟩
          · -- 25
            exfalso; omega
        · -- 11
          exfalso; omega
theorem c_clear (hC : RepC μ σ) : Ctr G mX10_clear [.ref 0] (Hp μ) (CQ μ (sClear σ)) := by
  refine Ctr.of ?_
  have k4 := hC.2.2.2.1
  have ho : Off 145 1 μ (up μ 145 1 0) := Off.rf.up (by omega) (by omega)
  refine E_aload_n dX10_clear_0 rfl ?_
  refine GX10_34 sk_0 dX10_clear_1 ?_
  refine GX10_84 sk_145 dX10_clear_4 ?_
  rw [k4.1]
  refine E_istore_n dX10_clear_7 ?_
  refine E_aload_n dX10_clear_8 rfl ?_
  refine GX10_34 sk_0 dX10_clear_9 ?_
  refine E_iconst dX10_clear_12 ?_
  refine PX10_84 sk_145 dX10_clear_13 ?_
  refine E_iload_n dX10_clear_16 rfl ?_
  refine E_iret dX10_clear_17 ?_
  exact ⟨rfl, _, rfl, ⟨hC.1.off ho (by omega), hC.2.1.off ho (by omega), hC.2.2.1.off ho (by omega), ⟨by rw [up_r, if_pos rfl]; rfl, by simp [sClear], RepV.nil⟩, hC.2.2.2.2.off ho (by omega)⟩, fun q hq => ho q (by omega)⟩
theorem RepC.tell {μ' : Mem} (hC : RepC μ σ) (hT : RepT μ' σ.2.2.2.1) (ho : ∀ q : Nat, q ≠ 145 → (q < 150 ∨ 150 + 3 ≤ q) → μ' q = μ q) : RepC μ' σ := by
  obtain ⟨c1, c2, c3, c4, c5⟩ := hC
  refine ⟨fun i hi => (c1 i hi).kept (ho _ (by omega) (by omega)) (ho _ (by omega) (by omega)) (ho _ (by omega) (by omega)), ?_, ?_, hT, ⟨by rw [ho 147 (by omega) (by omega)]; exact c5.1, c5.2.1, c5.2.2.1.kept (ho 148 (by omega) (by omega)), c5.2.2.2.kept (ho 149 (by omega) (by omega))⟩⟩
  · obtain ⟨nx, d1, d2, d3, d4, d5⟩ := c2
    exact ⟨nx, d1, by rw [ho 21 (by omega) (by omega)]; exact d2, by rw [ho 21 (by omega) (by omega)]; exact d3, d4, fun j sh hj i hi => (d5 j sh hj i hi).kept (ho _ (by omega) (by omega)) (ho _ (by omega) (by omega)) (ho _ (by omega) (by omega))⟩
  · intro k hk
    obtain ⟨d1, d2⟩ := c3 k hk
    refine ⟨fun q => by rw [ho 144 (by omega) (by omega)]; exact d1 q, fun g hg => ?_⟩
    obtain ⟨d3, d4⟩ := d2 g hg
    exact ⟨by rw [ho 144 (by omega) (by omega)]; exact d3, fun i hi => (d4 i hi).kept (ho _ (by omega) (by omega)) (ho _ (by omega) (by omega)) (ho _ (by omega) (by omega))⟩
theorem RepD.off {μ' : Mem} {r lo n : Nat} {s : Sp} (h : RepD μ r s) (ho : Off lo n μ μ') (hr : r + 3 ≤ lo ∨ lo + n ≤ r) : RepD μ' r s := h.keptD (ho _ (by omega)) (ho _ (by omega)) (ho _ (by omega))
theorem CQ.pre {μ1 : Mem} {R : Int × St} (ho : ∀ q : Nat, 203 ≤ q → μ1 q = μ q) {v : Option Value} {M' : HV} (h : CQ μ1 R v M') : CQ μ R v M' := by
  obtain ⟨h1, μ', h2, h3, h4⟩ := h
  exact ⟨h1, μ', h2, h3, fun q hq => by rw [h4 q hq, ho q hq]⟩
theorem c_mirrors {i : Int} (hi : -2147483648 ≤ i ∧ i < 2147483648) (hC : RepC μ σ) (hok : stOk σ) : Ctr G mX10_mirrors [.ref 0, vi i] (Hp μ) (CQ μ (sMirrors σ i)) := by
  refine Ctr.of ?_
  have hsp := c_isSpace (G := G) (M := Hp μ) hi
  by_cases q1 : isS i
  · rw [show sMirrors σ i = sSettle σ i (mulD (σ.1 i.toNat) (-1)) (cif (mulD (σ.1 i.toNat) (-1) = σ.1 i.toNat) 1 0) from cif_neg (not_not_intro q1)]
    rw [cif_pos q1] at hsp
    have hq := isSp_sh q1
    have hlt := at_lt q1
    have hi1 := q1.1
    have hi2 := q1.2
    have hs := rep_at q1 hC.1
    have ho := ok_at q1 hok.1
    have hr := mulD_rng ho (show -9 ≤ (-1 : Int) ∧ (-1 : Int) ≤ 9 by omega)
    have hl := putAll_len (m := -1) (σ.1 i.toNat).2.2.2 ((σ.1 i.toNat).1, (σ.1 i.toNat).2.1, (σ.1 i.toNat).2.2.1 * (-1), [])
    have hl2 : (mulD (σ.1 i.toNat) (-1)).2.2.2.length ≤ 6 := by have := ho.2.2.2.2.2.1; simp only [List.length_nil] at hl; unfold mulD; omega
    have hsm1 : ∀ x ∈ (σ.1 i.toNat).2.2.2, 1 ≤ x.1 ∧ x.1 ≤ 1000 := fun x hx => by obtain ⟨w1, w2, -⟩ := ho.2.2.2.2.2.2 x hx; omega
    have hsm : ∀ y ∈ (mulD (σ.1 i.toNat) (-1)).2.2.2, smF y := smF_putAll _ hsm1 _ (fun y hy => by simp at hy)
    have o0 := ho.1
    have o1 := ho.2.1
    have o2 := ho.2.2.1
    have o3 := ho.2.2.2.1
    have o4 := ho.2.2.2.2.1
    refine E_iload_n dX10_mirrors_0 rfl ?_
    refine E_callSR dX10_mirrors_1 lkX10_92 (hsp) ?_
    refine E_if_ne 9 dX10_mirrors_4 (fun h4 => ?_) (fun h4 => ?_)
    · -- 9
      refine E_aload_n dX10_mirrors_9 rfl ?_
      refine GX10_10 sk_0 dX10_mirrors_10 ?_
      refine GX10_104 sk_1 dX10_mirrors_13 ?_
      refine E_iload_n dX10_mirrors_16 rfl ?_
      refine H_aald4 sk_2 dX10_mirrors_17 (sp_at q1) ?_
      refine E_astore_n dX10_mirrors_18 ?_
      refine E_aload_n dX10_mirrors_19 rfl ?_
      refine GX10_48 sk_0 dX10_mirrors_20 ?_
      refine E_aload_n dX10_mirrors_23 rfl ?_
      refine E_iconst dX10_mirrors_24 ?_
      refine E_callVV dX10_mirrors_25 lkX10_108 (Hp_get sk_150) (c_becomeMultiple (m := -1) isSp_150 hq (by omega) (by omega) hs ho) ?_
      rintro μ1 ⟨a1, a2⟩
      have hC1 := hC.off a2 (by omega)
      have a1' : RepD μ1 150 (mulD (σ.1 i.toNat) (-1)) := a1
      refine E_aload_n dX10_mirrors_28 rfl ?_
      refine E_iload_n dX10_mirrors_29 rfl ?_
      refine E_aload_n dX10_mirrors_30 rfl ?_
      refine GX10_48 sk_0 dX10_mirrors_31 ?_
      refine E_aload_n dX10_mirrors_34 rfl ?_
      refine E_callVR dX10_mirrors_35 lkX10_112 (Hp_get sk_150) (c_sameAs isSp_150 hq (a1'.s hl2) (hs.off a2 (by omega)) hl2 ho.2.2.2.2.2.1 hsm (fun y hy => smF_of (ho.2.2.2.2.2.2 y hy)) ⟨by omega, by omega, by omega, by omega, by omega, by omega⟩ ⟨by omega, by omega, by omega, by omega, by omega, by omega⟩) ?_
      by_cases hE : mulD (σ.1 i.toNat) (-1) = σ.1 i.toNat
      · rw [if_pos hE, cif_pos hE]
        refine E_if_eq 45 dX10_mirrors_38 (fun q => absurd q (by decide)) (fun q => ?_)
        refine E_iconst dX10_mirrors_41 ?_
        refine E_goto 46 dX10_mirrors_42 ?_
        refine E_callVP dX10_mirrors_46 lkX10_100 (Hp_get sk_0) (c_settle (a := 1) q1 hC1 hok a1' (by omega) (by omega)) (fun v M' hv => ?_)
        obtain ⟨rfl, -⟩ := id hv
        exact E_iret dX10_mirrors_49 (CQ.pre (fun q hq => a2 q (by omega)) hv)
      · rw [if_neg hE, cif_neg hE]
        refine E_if_eq 45 dX10_mirrors_38 (fun q => ?_) (fun q => absurd rfl q)
        refine E_iconst dX10_mirrors_45 ?_
        refine E_callVP dX10_mirrors_46 lkX10_100 (Hp_get sk_0) (c_settle (a := 0) q1 hC1 hok a1' (by omega) (by omega)) (fun v M' hv => ?_)
        obtain ⟨rfl, -⟩ := id hv
        exact E_iret dX10_mirrors_49 (CQ.pre (fun q hq => a2 q (by omega)) hv)
      skip
    · -- 7
      exact absurd h4 (by decide)
  · rw [show sMirrors σ i = (-1, σ) from cif_pos q1]
    rw [cif_neg q1] at hsp
    refine E_iload_n dX10_mirrors_0 rfl ?_
    refine E_callSR dX10_mirrors_1 lkX10_92 (hsp) ?_
    refine E_if_ne 9 dX10_mirrors_4 (fun h4 => ?_) (fun h4 => ?_)
    · -- 9
      exact absurd rfl h4
    · -- 7
      refine E_iconst dX10_mirrors_7 ?_
      refine E_iret dX10_mirrors_8 ?_
      exact ⟨rfl, _, rfl, hC, fun _ _ => rfl⟩
/-- the end of an action that answers the number of fibres -/
theorem setN {y : MI} {pc : Nat} {ls : List Value} {i : Int} {d : Sp} {μ1 : Mem} (hC : RepC μ σ) (hok : stOk σ) (q1 : isS i) (a1 : RepD μ1 150 d) (k1 : -2147483648 < d.2.2.1 ∧ d.2.2.1 < 2147483648) (k2 : 0 ≤ d.2.1 ∧ d.2.1 < 1000) (a2 : Off 150 3 μ μ1)
    (d1 : decode (iC y) pc = .ok (.aload_n 0, 1)) (d2 : decode (iC y) (pc + 1) = .ok (.iload_n 1, 1)) (d3 : decode (iC y) (pc + 2) = .ok (.aload_n 0, 1)) (d4 : decode (iC y) (pc + 3) = .ok (.getfield 48, 3)) (d5 : decode (iC y) (pc + 6) = .ok (.getfield 120, 3)) (d6 : decode (iC y) (pc + 9) = .ok (.invokevirtual 100, 3)) (d7 : decode (iC y) (pc + 12) = .ok (.ireturn, 1))
    (l0 : ls[0]? = some (.ref 0) := by rfl) (l1 : ls[1]? = some (vi i) := by rfl) (hy : (iY y).cls = RX10 := by rfl) (hR : LR y mX10_settle := by exact ⟨Nat.le_of_ble_eq_true rfl, Nat.le_of_ble_eq_true rfl⟩) (hr : iR y = some .int := by rfl) (hm : 0 = iM y := by rfl) (hs : 0 = iS y := by rfl) :
    E G y (Zq G y (CQ μ (sSettle σ i d d.2.2.2.length))) 0 0 pc ls [] (Hp μ1) := by
  have hC1 := hC.off a2 (by omega)
  have hl : μ1 150 3 = d.2.2.2.length ∨ (μ1 150 3 = 6 ∧ 6 < d.2.2.2.length) := by
    rcases Nat.lt_or_ge 6 d.2.2.2.length with h | h
    · exact Or.inr ⟨(a1.2.2.2.2 h).1, h⟩
    · exact Or.inl (a1.2.2.2.1 h).1
  refine E_aload_n d1 l0 ?_
  refine E_iload_n d2 l1 ?_
  refine E_aload_n d3 l0 ?_
  refine GX10_48 sk_0 d4 ?_ hy
  refine GX10_120 isSp_150.1 d5 ?_ hy
  have hset : Ctr G mX10_settle [.ref 0, vi i, vi (μ1 150 3)] (Hp μ1) (CQ μ1 (sSettle σ i d d.2.2.2.length)) := by
    rcases hl with h | ⟨h, h6⟩
    · rw [h]; exact c_settle q1 hC1 hok a1 k1 k2
    · have e : ∀ a, sSettle σ i d a = (-3, σ) := fun a => cif_neg (fun q => by have := q.1; omega)
      rw [e, ← e (μ1 150 3)]
      exact c_settle q1 hC1 hok a1 k1 k2
  refine E_callVP d6 (by rw [hy]; exact lkX10_100) (Hp_get sk_0) hset (fun v M' hv => ?_) rfl rfl hR (Nat.le_of_ble_eq_true rfl) rfl rfl (by omega) (by omega)
  obtain ⟨rfl, -⟩ := id hv
  exact E_iret d7 (CQ.pre (fun q hq => a2 q (by omega)) hv) hr hm hs
theorem joinD_rng {s t : Sp} (hs : spOk s) (ht : spOk t) : 0 ≤ (joinD s t).2.1 ∧ (joinD s t).2.1 ≤ 20 ∧ -20000 ≤ (joinD s t).2.2.1 ∧ (joinD s t).2.2.1 ≤ 20000 ∧ (joinD s t).1 = max s.1 t.1 ∧ (joinD s t).2.1 = (if s.1 = max s.1 t.1 then s.2.1 else 2 * s.2.1) + (if t.1 = max s.1 t.1 then t.2.1 else 2 * t.2.1) := by
  have h1 := putAll_sh (m := 1) (by omega) s.2.2.2 (max s.1 t.1, (if s.1 = max s.1 t.1 then s.2.1 else 2 * s.2.1) + (if t.1 = max s.1 t.1 then t.2.1 else 2 * t.2.1), s.2.2.1 + t.2.2.1, []) hs.2.2.2.2.2.2
  have h2 := putAll_sh (m := 1) (by omega) t.2.2.2 (putAll (max s.1 t.1, (if s.1 = max s.1 t.1 then s.2.1 else 2 * s.2.1) + (if t.1 = max s.1 t.1 then t.2.1 else 2 * t.2.1), s.2.2.1 + t.2.2.1, []) s.2.2.2 1) ht.2.2.2.2.2.2
  have a0 := hs.1
  have b0 := ht.1
  have a1 := hs.2.1
  have b1 := ht.2.1
  have a2 := hs.2.2.1
  have b2 := ht.2.2.1
  have a3 := hs.2.2.2.1
  have b3 := ht.2.2.2.1
  have a4 := hs.2.2.2.2.1
  have b4 := ht.2.2.2.2.1
  have a5 := hs.2.2.2.2.2.1
  have b5 := ht.2.2.2.2.2.1
  have g1 : 0 ≤ (if s.1 = max s.1 t.1 then s.2.1 else 2 * s.2.1) ∧ (if s.1 = max s.1 t.1 then s.2.1 else 2 * s.2.1) ≤ 8 := by split <;> omega
  have g2 : 0 ≤ (if t.1 = max s.1 t.1 then t.2.1 else 2 * t.2.1) ∧ (if t.1 = max s.1 t.1 then t.2.1 else 2 * t.2.1) ≤ 8 := by split <;> omega
  simp only at h1
  unfold joinD
  generalize (if s.1 = max s.1 t.1 then s.2.1 else 2 * s.2.1) = x at *
  generalize (if t.1 = max s.1 t.1 then t.2.1 else 2 * t.2.1) = y at *
  obtain ⟨p1, p2, p3, p4⟩ := h1
  obtain ⟨r1, r2, r3, r4⟩ := h2
  rw [p1] at r1
  rw [p2] at r2
  exact ⟨by omega, by omega, by omega, by omega, r1, r2⟩
theorem c_joins {i j k : Int} (hi : -2147483648 ≤ i ∧ i < 2147483648) (hj : -2147483648 ≤ j ∧ j < 2147483648) (hk : -2147483648 ≤ k ∧ k < 2147483648) (hC : RepC μ σ) (hok : stOk σ) : Ctr G mX10_joins [.ref 0, vi i, vi j, vi k] (Hp μ) (CQ μ (sJoins σ i j k)) := by
  refine Ctr.of ?_
  have hsi := c_isSpace (G := G) (M := Hp μ) hi
  have hsj := c_isSpace (G := G) (M := Hp μ) hj
  have hsk := c_isSpace (G := G) (M := Hp μ) hk
  have bad : ¬ (isS i ∧ isS j ∧ isS k) → sJoins σ i j k = (-1, σ) := fun h => cif_pos h
  by_cases q1 : isS i
  · rw [cif_pos q1] at hsi
    by_cases q2 : isS j
    · rw [cif_pos q2] at hsj
      by_cases q3 : isS k
      · rw [cif_pos q3] at hsk
        rw [show sJoins σ i j k = _ from cif_neg (not_not_intro ⟨q1, q2, q3⟩)]
        have hf := isSp_sh q2
        have hg := isSp_sh q3
        have l2 := at_lt q2
        have l3 := at_lt q3
        have j1 := q2.1
        have j2 := q2.2
        have k1 := q3.1
        have k2 := q3.2
        have hr := joinD_rng (ok_at q2 hok.1) (ok_at q3 hok.1)
        refine E_iload_n dX10_joins_0 rfl ?_
        refine E_callSR dX10_joins_1 lkX10_92 (hsi) ?_
        refine E_if_eq 21 dX10_joins_4 (fun h4 => ?_) (fun h4 => ?_)
        · -- 21
          first | exact absurd h4 (by decide) | exact absurd h11 (by decide) | exact absurd h18 (by decide)
        · -- 7
          refine E_iload_n dX10_joins_7 rfl ?_
          refine E_callSR dX10_joins_8 lkX10_92 (hsj) ?_
          refine E_if_eq 21 dX10_joins_11 (fun h11 => ?_) (fun h11 => ?_)
          · -- 21
            first | exact absurd h4 (by decide) | exact absurd h11 (by decide) | exact absurd h18 (by decide)
          · -- 14
            refine E_iload_n dX10_joins_14 rfl ?_
            refine E_callSR dX10_joins_15 lkX10_92 (hsk) ?_
            refine E_if_ne 23 dX10_joins_18 (fun h18 => ?_) (fun h18 => ?_)
            · -- 23
              refine E_aload_n dX10_joins_23 rfl ?_
              refine GX10_48 sk_0 dX10_joins_24 ?_
              refine E_aload_n dX10_joins_27 rfl ?_
              refine GX10_10 sk_0 dX10_joins_28 ?_
              refine GX10_104 sk_1 dX10_joins_31 ?_
              refine E_iload_n dX10_joins_34 rfl ?_
              refine H_aald4 sk_2 dX10_joins_35 (sp_at q2) ?_
              refine E_aload_n dX10_joins_36 rfl ?_
              refine GX10_10 sk_0 dX10_joins_37 ?_
              refine GX10_104 sk_1 dX10_joins_40 ?_
              refine E_iload_n dX10_joins_43 rfl ?_
              refine H_aald4 sk_2 dX10_joins_44 (sp_at q3) ?_
              refine E_callVV dX10_joins_45 lkX10_116 (Hp_get sk_150) (c_becomeJoin isSp_150 hf hg (by omega) (by omega) (rep_at q2 hC.1) (ok_at q2 hok.1) (rep_at q3 hC.1) (ok_at q3 hok.1)) ?_
              rintro μ1 ⟨a1, a2⟩
              exact setN hC hok q1 a1 (by omega) (by omega) a2 dX10_joins_48 dX10_joins_49 dX10_joins_50 dX10_joins_51 dX10_joins_54 dX10_joins_57 dX10_joins_60
              skip
            · -- 21
              first | exact absurd h4 (by decide) | exact absurd h11 (by decide) | exact absurd h18 (by decide)
      · rw [bad (fun h => q3 h.2.2)]
        rw [cif_neg q3] at hsk
        refine E_iload_n dX10_joins_0 rfl ?_
        refine E_callSR dX10_joins_1 lkX10_92 (hsi) ?_
        refine E_if_eq 21 dX10_joins_4 (fun h4 => ?_) (fun h4 => ?_)
        · -- 21
          refine E_iconst dX10_joins_21 ?_
          refine E_iret dX10_joins_22 ?_
          exact ⟨rfl, _, rfl, hC, fun _ _ => rfl⟩
        · -- 7
          refine E_iload_n dX10_joins_7 rfl ?_
          refine E_callSR dX10_joins_8 lkX10_92 (hsj) ?_
          refine E_if_eq 21 dX10_joins_11 (fun h11 => ?_) (fun h11 => ?_)
          · -- 21
            refine E_iconst dX10_joins_21 ?_
            refine E_iret dX10_joins_22 ?_
            exact ⟨rfl, _, rfl, hC, fun _ _ => rfl⟩
          · -- 14
            refine E_iload_n dX10_joins_14 rfl ?_
            refine E_callSR dX10_joins_15 lkX10_92 (hsk) ?_
            refine E_if_ne 23 dX10_joins_18 (fun h18 => ?_) (fun h18 => ?_)
            · -- 23
              exact absurd rfl h18
            · -- 21
              refine E_iconst dX10_joins_21 ?_
              refine E_iret dX10_joins_22 ?_
              exact ⟨rfl, _, rfl, hC, fun _ _ => rfl⟩
    · rw [bad (fun h => q2 h.2.1)]
      rw [cif_neg q2] at hsj
      refine E_iload_n dX10_joins_0 rfl ?_
      refine E_callSR dX10_joins_1 lkX10_92 (hsi) ?_
      refine E_if_eq 21 dX10_joins_4 (fun h4 => ?_) (fun h4 => ?_)
      · -- 21
        refine E_iconst dX10_joins_21 ?_
        refine E_iret dX10_joins_22 ?_
        exact ⟨rfl, _, rfl, hC, fun _ _ => rfl⟩
      · -- 7
        refine E_iload_n dX10_joins_7 rfl ?_
        refine E_callSR dX10_joins_8 lkX10_92 (hsj) ?_
        refine E_if_eq 21 dX10_joins_11 (fun h11 => ?_) (fun h11 => ?_)
        · -- 21
          refine E_iconst dX10_joins_21 ?_
          refine E_iret dX10_joins_22 ?_
          exact ⟨rfl, _, rfl, hC, fun _ _ => rfl⟩
        · -- 14
          exact absurd rfl h11
  · rw [bad (fun h => q1 h.1)]
    rw [cif_neg q1] at hsi
    refine E_iload_n dX10_joins_0 rfl ?_
    refine E_callSR dX10_joins_1 lkX10_92 (hsi) ?_
    refine E_if_eq 21 dX10_joins_4 (fun h4 => ?_) (fun h4 => ?_)
    · -- 21
      refine E_iconst dX10_joins_21 ?_
      refine E_iret dX10_joins_22 ?_
      exact ⟨rfl, _, rfl, hC, fun _ _ => rfl⟩
    · -- 7
      exact absurd rfl h4
theorem c_isFibre {i k : Int} (hi : -2147483648 ≤ i ∧ i < 2147483648) (hk : -2147483648 ≤ k ∧ k < 2147483648) (hC : RepC μ σ) (hok : stOk σ) : Ctr G mX10_isFibre [.ref 0, vi i, vi k] (Hp μ) (R1 (vi (cif (isS i ∧ 0 ≤ k ∧ k < (σ.1 i.toNat).2.2.2.length) 1 0)) (Hp μ)) := by
  refine Ctr.of ?_
  have hsi := c_isSpace (G := G) (M := Hp μ) hi
  by_cases q1 : isS i
  · rw [cif_pos q1] at hsi
    have hf := isSp_sh q1
    have j1 := q1.1
    have j2 := q1.2
    have hs := rep_at q1 hC.1
    have hl := hs.2.2.2.1
    have hl6 := (ok_at q1 hok.1).2.2.2.2.2.1
    have e1 : 0 ≤ k ∧ k < (σ.1 i.toNat).2.2.2.length → (cif (isS i ∧ 0 ≤ k ∧ k < (σ.1 i.toNat).2.2.2.length) (1 : Int) 0) = 1 := fun h => cif_pos ⟨q1, h⟩
    have e0 : ¬ (0 ≤ k ∧ k < (σ.1 i.toNat).2.2.2.length) → (cif (isS i ∧ 0 ≤ k ∧ k < (σ.1 i.toNat).2.2.2.length) (1 : Int) 0) = 0 := fun h => cif_neg (fun q => h q.2)
    refine E_iload_n dX10_isFibre_0 rfl ?_
    refine E_callSR dX10_isFibre_1 lkX10_92 (hsi) ?_
    refine E_if_eq 31 dX10_isFibre_4 (fun h4 => ?_) (fun h4 => ?_)
    · -- 31
      refine E_iconst dX10_isFibre_31 ?_
      refine E_zret dX10_isFibre_32 ?_ (by first | exact Or.inl rfl | exact Or.inr rfl | omega)
      first | exact absurd h4 (by decide) | (rw [e1 ⟨by omega, by omega⟩]; exact ⟨rfl, rfl⟩) | (rw [e0 (by omega)]; exact ⟨rfl, rfl⟩)
    · -- 7
      refine E_iload_n dX10_isFibre_7 rfl ?_
      refine E_if_lt 31 dX10_isFibre_8 (fun h8 => ?_) (fun h8 => ?_)
      · -- 31
        refine E_iconst dX10_isFibre_31 ?_
        refine E_zret dX10_isFibre_32 ?_ (by first | exact Or.inl rfl | exact Or.inr rfl | omega)
        first | exact absurd h4 (by decide) | (rw [e1 ⟨by omega, by omega⟩]; exact ⟨rfl, rfl⟩) | (rw [e0 (by omega)]; exact ⟨rfl, rfl⟩)
      · -- 11
        refine E_iload_n dX10_isFibre_11 rfl ?_
        refine E_aload_n dX10_isFibre_12 rfl ?_
        refine GX10_10 sk_0 dX10_isFibre_13 ?_
        refine GX10_104 sk_1 dX10_isFibre_16 ?_
        refine E_iload_n dX10_isFibre_19 rfl ?_
        refine H_aald4 sk_2 dX10_isFibre_20 (sp_at q1) ?_
        refine GX10_120 hf.1 dX10_isFibre_21 ?_
        rw [hl]
        refine E_icmp_ge 31 dX10_isFibre_24 (fun h24 => ?_) (fun h24 => ?_)
        · -- 31
          refine E_iconst dX10_isFibre_31 ?_
          refine E_zret dX10_isFibre_32 ?_ (by first | exact Or.inl rfl | exact Or.inr rfl | omega)
          first | exact absurd h4 (by decide) | (rw [e1 ⟨by omega, by omega⟩]; exact ⟨rfl, rfl⟩) | (rw [e0 (by omega)]; exact ⟨rfl, rfl⟩)
        · -- 27
          refine E_iconst dX10_isFibre_27 ?_
          refine E_goto 32 dX10_isFibre_28 ?_
          refine E_zret dX10_isFibre_32 ?_ (by first | exact Or.inl rfl | exact Or.inr rfl | omega)
          first | exact absurd h4 (by decide) | (rw [e1 ⟨by omega, by omega⟩]; exact ⟨rfl, rfl⟩) | (rw [e0 (by omega)]; exact ⟨rfl, rfl⟩)
  · rw [cif_neg q1] at hsi
    rw [cif_neg (show ¬ (isS i ∧ 0 ≤ k ∧ k < (σ.1 i.toNat).2.2.2.length) from fun q => q1 q.1)]
    refine E_iload_n dX10_isFibre_0 rfl ?_
    refine E_callSR dX10_isFibre_1 lkX10_92 (hsi) ?_
    refine E_if_eq 31 dX10_isFibre_4 (fun h4 => ?_) (fun h4 => ?_)
    · -- 31
      refine E_iconst dX10_isFibre_31 ?_
      refine E_zret dX10_isFibre_32 ?_ (by first | exact Or.inl rfl | exact Or.inr rfl | omega)
      exact ⟨rfl, rfl⟩
    · -- 7
      exact absurd rfl h4
theorem put_rng {s : Sp} {a b : Int} (hok : spOk s) (ha : 1 ≤ a ∧ a ≤ 30) (hb : -99 ≤ b ∧ b ≤ 99) : -20000 ≤ (put s a b).2.2.1 ∧ (put s a b).2.2.1 ≤ 20000 := by
  have h1 := hok.2.2.2.1
  have h2 := hok.2.2.2.2.1
  have h3 : -99 ≤ b / a := Int.le_ediv_of_mul_le (by omega) (by omega)
  have h4 : b / a ≤ 99 := Int.ediv_le_of_le_mul (by omega) (by omega)
  simp only [put]
  omega
theorem c_fills {i a b : Int} (hi : -2147483648 ≤ i ∧ i < 2147483648) (ha : -2147483648 ≤ a ∧ a < 2147483648) (hb : -2147483648 ≤ b ∧ b < 2147483648) (hC : RepC μ σ) (hok : stOk σ) : Ctr G mX10_fills [.ref 0, vi i, vi a, vi b] (Hp μ) (CQ μ (sFills σ i a b)) := by
  refine Ctr.of ?_
  have hsi := c_isSpace (G := G) (M := Hp μ) hi
  have bad : ¬ (isS i ∧ 1 ≤ a ∧ a ≤ 30 ∧ -99 ≤ b ∧ b ≤ 99 ∧ Int.gcd a b = 1) → sFills σ i a b = (-1, σ) := fun h => cif_pos h
  by_cases q1 : isS i
  · rw [cif_pos q1] at hsi
    have hf := isSp_sh q1
    have lt := at_lt q1
    have j1 := q1.1
    have j2 := q1.2
    have hs := rep_at q1 hC.1
    have ho := ok_at q1 hok.1
    by_cases q2 : 1 ≤ a ∧ a ≤ 30 ∧ -99 ≤ b ∧ b ≤ 99
    · have kg := Int.gcd_le_left b (show 0 < a by omega)
      by_cases q3 : Int.gcd a b = 1
      · rw [show sFills σ i a b = _ from cif_neg (not_not_intro ⟨q1, q2.1, q2.2.1, q2.2.2.1, q2.2.2.2, q3⟩)]
        have hr := put_rng ho (a := a) (b := b) (by omega) (by omega)
        have g1 := ho.2.1
        have g0 := ho.1
        have g2 := ho.2.2.1
        refine E_iload_n dX10_fills_0 rfl ?_
        refine E_callSR dX10_fills_1 lkX10_92 (hsi) ?_
        refine E_if_eq 30 dX10_fills_4 (fun h4 => ?_) (fun h4 => ?_)
        · -- 30
          first | exact absurd h4 (by decide) | (exfalso; omega)
        · -- 7
          refine E_iload_n dX10_fills_7 rfl ?_
          refine E_iconst dX10_fills_8 ?_
          refine E_icmp_lt 30 dX10_fills_9 (fun h9 => ?_) (fun h9 => ?_)
          · -- 30
            first | exact absurd h4 (by decide) | (exfalso; omega)
          · -- 12
            refine E_iload_n dX10_fills_12 rfl ?_
            refine E_bipush dX10_fills_13 ?_
            refine E_icmp_gt 30 dX10_fills_15 (fun h15 => ?_) (fun h15 => ?_)
            · -- 30
              first | exact absurd h4 (by decide) | (exfalso; omega)
            · -- 18
              refine E_iload_n dX10_fills_18 rfl ?_
              refine E_bipush dX10_fills_19 ?_
              refine E_icmp_lt 30 dX10_fills_21 (fun h21 => ?_) (fun h21 => ?_)
              · -- 30
                first | exact absurd h4 (by decide) | (exfalso; omega)
              · -- 24
                refine E_iload_n dX10_fills_24 rfl ?_
                refine E_bipush dX10_fills_25 ?_
                refine E_icmp_le 32 dX10_fills_27 (fun h27 => ?_) (fun h27 => ?_)
                · -- 32
                  refine E_iload_n dX10_fills_32 rfl ?_
                  refine E_i2l dX10_fills_33 ?_
                  refine E_iload_n dX10_fills_34 rfl ?_
                  refine E_i2l dX10_fills_35 ?_
                  refine E_callSR dX10_fills_36 lkX10_123 (c_gcd (x := a) (z := b) (by omega) (by omega)) ?_
                  refine E_lconst1 dX10_fills_39 ?_
                  refine E_lcmp_eq 46 dX10_fills_40 dX10_fills_41 (fun h40 => ?_) (fun h40 => ?_)
                  · -- 46
                    refine E_aload_n dX10_fills_46 rfl ?_
                    refine GX10_48 sk_0 dX10_fills_47 ?_
                    refine E_aload_n dX10_fills_50 rfl ?_
                    refine GX10_10 sk_0 dX10_fills_51 ?_
                    refine GX10_104 sk_1 dX10_fills_54 ?_
                    refine E_iload_n dX10_fills_57 rfl ?_
                    refine H_aald4 sk_2 dX10_fills_58 (sp_at q1) ?_
                    refine E_callVV dX10_fills_59 lkX10_129 (Hp_get sk_150) (c_copy isSp_150 hf (by omega) hs ho.2.2.2.2.2.1) ?_
                    rintro μ1 ⟨a1, a2⟩
                    refine E_aload_n dX10_fills_62 rfl ?_
                    refine GX10_48 sk_0 dX10_fills_63 ?_
                    refine E_iload_n dX10_fills_66 rfl ?_
                    refine E_iload_n dX10_fills_67 rfl ?_
                    refine E_callVV dX10_fills_68 lkX10_133 (Hp_get sk_150) (c_put (a := a) (b := b) isSp_150 (a1.d ho.2.2.2.2.2.1) (by omega) (by omega) (fun y hy => smF_of (ho.2.2.2.2.2.2 y hy))) ?_
                    rintro μ2 ⟨b1, b2⟩
                    exact setN hC hok q1 b1 (by omega) ⟨by rw [(put_sh _ a b).2.1]; omega, by rw [(put_sh _ a b).2.1]; omega⟩ (a2.tr b2) dX10_fills_71 dX10_fills_72 dX10_fills_73 dX10_fills_74 dX10_fills_77 dX10_fills_80 dX10_fills_83
                    skip
                  · -- 44
                    exfalso; omega
                · -- 30
                  first | exact absurd h4 (by decide) | (exfalso; omega)
      · rw [bad (fun h => q3 h.2.2.2.2.2)]
        refine E_iload_n dX10_fills_0 rfl ?_
        refine E_callSR dX10_fills_1 lkX10_92 (hsi) ?_
        refine E_if_eq 30 dX10_fills_4 (fun h4 => ?_) (fun h4 => ?_)
        · -- 30
          first | exact absurd h4 (by decide) | (exfalso; omega)
        · -- 7
          refine E_iload_n dX10_fills_7 rfl ?_
          refine E_iconst dX10_fills_8 ?_
          refine E_icmp_lt 30 dX10_fills_9 (fun h9 => ?_) (fun h9 => ?_)
          · -- 30
            first | exact absurd h4 (by decide) | (exfalso; omega)
          · -- 12
            refine E_iload_n dX10_fills_12 rfl ?_
            refine E_bipush dX10_fills_13 ?_
            refine E_icmp_gt 30 dX10_fills_15 (fun h15 => ?_) (fun h15 => ?_)
            · -- 30
              first | exact absurd h4 (by decide) | (exfalso; omega)
            · -- 18
              refine E_iload_n dX10_fills_18 rfl ?_
              refine E_bipush dX10_fills_19 ?_
              refine E_icmp_lt 30 dX10_fills_21 (fun h21 => ?_) (fun h21 => ?_)
              · -- 30
                first | exact absurd h4 (by decide) | (exfalso; omega)
              · -- 24
                refine E_iload_n dX10_fills_24 rfl ?_
                refine E_bipush dX10_fills_25 ?_
                refine E_icmp_le 32 dX10_fills_27 (fun h27 => ?_) (fun h27 => ?_)
                · -- 32
                  refine E_iload_n dX10_fills_32 rfl ?_
                  refine E_i2l dX10_fills_33 ?_
                  refine E_iload_n dX10_fills_34 rfl ?_
                  refine E_i2l dX10_fills_35 ?_
                  refine E_callSR dX10_fills_36 lkX10_123 (c_gcd (x := a) (z := b) (by omega) (by omega)) ?_
                  refine E_lconst1 dX10_fills_39 ?_
                  refine E_lcmp_eq 46 dX10_fills_40 dX10_fills_41 (fun h40 => ?_) (fun h40 => ?_)
                  · -- 46
                    exfalso; omega
                  · -- 44
                    refine E_iconst dX10_fills_44 ?_
                    refine E_iret dX10_fills_45 ?_
                    exact ⟨rfl, _, rfl, hC, fun _ _ => rfl⟩
                · -- 30
                  first | exact absurd h4 (by decide) | (exfalso; omega)
    · rw [bad (fun h => q2 ⟨h.2.1, h.2.2.1, h.2.2.2.1, h.2.2.2.2.1⟩)]
      refine E_iload_n dX10_fills_0 rfl ?_
      refine E_callSR dX10_fills_1 lkX10_92 (hsi) ?_
      refine E_if_eq 30 dX10_fills_4 (fun h4 => ?_) (fun h4 => ?_)
      · -- 30
        refine E_iconst dX10_fills_30 ?_
        refine E_iret dX10_fills_31 ?_
        exact ⟨rfl, _, rfl, hC, fun _ _ => rfl⟩
      · -- 7
        refine E_iload_n dX10_fills_7 rfl ?_
        refine E_iconst dX10_fills_8 ?_
        refine E_icmp_lt 30 dX10_fills_9 (fun h9 => ?_) (fun h9 => ?_)
        · -- 30
          refine E_iconst dX10_fills_30 ?_
          refine E_iret dX10_fills_31 ?_
          exact ⟨rfl, _, rfl, hC, fun _ _ => rfl⟩
        · -- 12
          refine E_iload_n dX10_fills_12 rfl ?_
          refine E_bipush dX10_fills_13 ?_
          refine E_icmp_gt 30 dX10_fills_15 (fun h15 => ?_) (fun h15 => ?_)
          · -- 30
            refine E_iconst dX10_fills_30 ?_
            refine E_iret dX10_fills_31 ?_
            exact ⟨rfl, _, rfl, hC, fun _ _ => rfl⟩
          · -- 18
            refine E_iload_n dX10_fills_18 rfl ?_
            refine E_bipush dX10_fills_19 ?_
            refine E_icmp_lt 30 dX10_fills_21 (fun h21 => ?_) (fun h21 => ?_)
            · -- 30
              refine E_iconst dX10_fills_30 ?_
              refine E_iret dX10_fills_31 ?_
              exact ⟨rfl, _, rfl, hC, fun _ _ => rfl⟩
            · -- 24
              refine E_iload_n dX10_fills_24 rfl ?_
              refine E_bipush dX10_fills_25 ?_
              refine E_icmp_le 32 dX10_fills_27 (fun h27 => ?_) (fun h27 => ?_)
              · -- 32
                exfalso; omega
              · -- 30
                refine E_iconst dX10_fills_30 ?_
                refine E_iret dX10_fills_31 ?_
                exact ⟨rfl, _, rfl, hC, fun _ _ => rfl⟩
  · rw [bad (fun h => q1 h.1)]
    rw [cif_neg q1] at hsi
    refine E_iload_n dX10_fills_0 rfl ?_
    refine E_callSR dX10_fills_1 lkX10_92 (hsi) ?_
    refine E_if_eq 30 dX10_fills_4 (fun h4 => ?_) (fun h4 => ?_)
    · -- 30
      refine E_iconst dX10_fills_30 ?_
      refine E_iret dX10_fills_31 ?_
      exact ⟨rfl, _, rfl, hC, fun _ _ => rfl⟩
    · -- 7
      exact absurd rfl h4
theorem c_drills {i k : Int} (hi : -2147483648 ≤ i ∧ i < 2147483648) (hk : -2147483648 ≤ k ∧ k < 2147483648) (hC : RepC μ σ) (hok : stOk σ) : Ctr G mX10_drills [.ref 0, vi i, vi k] (Hp μ) (CQ μ (sDrills σ i k)) := by
  refine Ctr.of ?_
  have hfi := c_isFibre (G := G) hi hk hC hok
  by_cases q : isS i ∧ 0 ≤ k ∧ k < (σ.1 i.toNat).2.2.2.length
  · rw [cif_pos q] at hfi
    rw [show sDrills σ i k = _ from cif_neg (not_not_intro q)]
    have q1 := q.1
    have hf := isSp_sh q1
    have lt := at_lt q1
    have j1 := q1.1
    have j2 := q1.2
    have hs := rep_at q1 hC.1
    have ho := ok_at q1 hok.1
    have hl6 := ho.2.2.2.2.2.1
    have hk0 : ((k.toNat : Nat) : Int) = k := by omega
    have hb := c_becomeWithout (G := G) (m := k.toNat) isSp_150 hf (by omega) (by omega) hs ho
    rw [hk0] at hb
    have hr := putAll_sh (m := 1) (by omega) ((σ.1 i.toNat).2.2.2.eraseIdx k.toNat) ((σ.1 i.toNat).1, (σ.1 i.toNat).2.1, (σ.1 i.toNat).2.2.1, []) (fun x hx => ho.2.2.2.2.2.2 x (List.mem_of_mem_eraseIdx hx))
    have hel : ((σ.1 i.toNat).2.2.2.eraseIdx k.toNat).length ≤ 6 := by rw [List.length_eraseIdx]; split <;> omega
    simp only at hr
    have g0 := ho.1
    have g1 := ho.2.1
    have g2 := ho.2.2.1
    have g3 := ho.2.2.2.1
    have g4 := ho.2.2.2.2.1
    refine E_aload_n dX10_drills_0 rfl ?_
    refine E_iload_n dX10_drills_1 rfl ?_
    refine E_iload_n dX10_drills_2 rfl ?_
    refine E_callVR dX10_drills_3 lkX10_137 (Hp_get sk_0) (hfi) ?_
    refine E_if_ne 11 dX10_drills_6 (fun h6 => ?_) (fun h6 => ?_)
    · -- 11
      refine E_aload_n dX10_drills_11 rfl ?_
      refine GX10_48 sk_0 dX10_drills_12 ?_
      refine E_aload_n dX10_drills_15 rfl ?_
      refine GX10_10 sk_0 dX10_drills_16 ?_
      refine GX10_104 sk_1 dX10_drills_19 ?_
      refine E_iload_n dX10_drills_22 rfl ?_
      refine H_aald4 sk_2 dX10_drills_23 (sp_at q1) ?_
      refine E_iload_n dX10_drills_24 rfl ?_
      refine E_callVV dX10_drills_25 lkX10_141 (Hp_get sk_150) (hb) ?_
      rintro μ1 ⟨a1, a2⟩
      exact setN hC hok q1 a1 (by omega) (by omega) a2 dX10_drills_28 dX10_drills_29 dX10_drills_30 dX10_drills_31 dX10_drills_34 dX10_drills_37 dX10_drills_40
      skip
    · -- 9
      exact absurd h6 (by decide)
  · rw [cif_neg q] at hfi
    rw [show sDrills σ i k = (-1, σ) from cif_pos q]
    refine E_aload_n dX10_drills_0 rfl ?_
    refine E_iload_n dX10_drills_1 rfl ?_
    refine E_iload_n dX10_drills_2 rfl ?_
    refine E_callVR dX10_drills_3 lkX10_137 (Hp_get sk_0) (hfi) ?_
    refine E_if_ne 11 dX10_drills_6 (fun h6 => ?_) (fun h6 => ?_)
    · -- 11
      exact absurd rfl h6
    · -- 9
      refine E_iconst dX10_drills_9 ?_
      refine E_iret dX10_drills_10 ?_
      exact ⟨rfl, _, rfl, hC, fun _ _ => rfl⟩
theorem c_turnsOn {i m : Int} (hi : -2147483648 ≤ i ∧ i < 2147483648) (hm : -2147483648 ≤ m ∧ m < 2147483648) (hC : RepC μ σ) (hok : stOk σ) : Ctr G mX10_turnsOn [.ref 0, vi i, vi m] (Hp μ) (CQ μ (sTurnsOn σ i m)) := by
  refine Ctr.of ?_
  have hsi := c_isSpace (G := G) (M := Hp μ) hi
  have bad : ¬ (isS i ∧ 2 ≤ m ∧ m ≤ 9) → sTurnsOn σ i m = (-1, σ) := fun h => cif_pos h
  by_cases q1 : isS i
  · rw [cif_pos q1] at hsi
    have hf := isSp_sh q1
    have lt := at_lt q1
    have j1 := q1.1
    have j2 := q1.2
    have hs := rep_at q1 hC.1
    have ho := ok_at q1 hok.1
    by_cases q2 : 2 ≤ m ∧ m ≤ 9
    · rw [show sTurnsOn σ i m = _ from cif_neg (not_not_intro ⟨q1, q2⟩)]
      have hcp := c_isCoprimeTo (G := G) hf hs ho q2
      have hr := mulD_rng ho (m := m) (by omega)
      have g0 := ho.1
      have g1 := ho.2.1
      have g2 := ho.2.2.1
      by_cases q3 : cop m (σ.1 i.toNat).2.2.2 = true
      · rw [cif_pos q3]
        rw [if_pos q3] at hcp
        refine E_iload_n dX10_turnsOn_0 rfl ?_
        refine E_callSR dX10_turnsOn_1 lkX10_92 (hsi) ?_
        refine E_if_eq 18 dX10_turnsOn_4 (fun h4 => ?_) (fun h4 => ?_)
        · -- 18
          first | exact absurd h4 (by decide) | (exfalso; omega)
        · -- 7
          refine E_iload_n dX10_turnsOn_7 rfl ?_
          refine E_iconst dX10_turnsOn_8 ?_
          refine E_icmp_lt 18 dX10_turnsOn_9 (fun h9 => ?_) (fun h9 => ?_)
          · -- 18
            first | exact absurd h4 (by decide) | (exfalso; omega)
          · -- 12
            refine E_iload_n dX10_turnsOn_12 rfl ?_
            refine E_bipush dX10_turnsOn_13 ?_
            refine E_icmp_le 20 dX10_turnsOn_15 (fun h15 => ?_) (fun h15 => ?_)
            · -- 20
              refine E_aload_n dX10_turnsOn_20 rfl ?_
              refine GX10_10 sk_0 dX10_turnsOn_21 ?_
              refine GX10_104 sk_1 dX10_turnsOn_24 ?_
              refine E_iload_n dX10_turnsOn_27 rfl ?_
              refine H_aald4 sk_2 dX10_turnsOn_28 (sp_at q1) ?_
              refine E_iload_n dX10_turnsOn_29 rfl ?_
              refine E_callVR dX10_turnsOn_30 lkX10_144 (Hp_get hf.1) (hcp) ?_
              refine E_if_ne 39 dX10_turnsOn_33 (fun h33 => ?_) (fun h33 => ?_)
              · -- 39
                refine E_aload_n dX10_turnsOn_39 rfl ?_
                refine GX10_48 sk_0 dX10_turnsOn_40 ?_
                refine E_aload_n dX10_turnsOn_43 rfl ?_
                refine GX10_10 sk_0 dX10_turnsOn_44 ?_
                refine GX10_104 sk_1 dX10_turnsOn_47 ?_
                refine E_iload_n dX10_turnsOn_50 rfl ?_
                refine H_aald4 sk_2 dX10_turnsOn_51 (sp_at q1) ?_
                refine E_iload_n dX10_turnsOn_52 rfl ?_
                refine E_callVV dX10_turnsOn_53 lkX10_108 (Hp_get sk_150) (c_becomeMultiple (m := m) isSp_150 hf (by omega) (by omega) hs ho) ?_
                rintro μ1 ⟨a1, a2⟩
                have a1' : RepD μ1 150 (mulD (σ.1 i.toNat) m) := a1
                refine E_aload_n dX10_turnsOn_56 rfl ?_
                refine E_iload_n dX10_turnsOn_57 rfl ?_
                refine E_iconst dX10_turnsOn_58 ?_
                refine E_callVP dX10_turnsOn_59 lkX10_100 (Hp_get sk_0) (c_settle (a := 1) q1 (hC.off a2 (by omega)) hok a1' (by omega) (by omega)) ?_
                intro v M' hv
                obtain ⟨rfl, -⟩ := id hv
                exact E_iret dX10_turnsOn_62 (CQ.pre (fun q hq => a2 q (by omega)) hv)
                skip
              · -- 36
                exact absurd h33 (by decide)
            · -- 18
              first | exact absurd h4 (by decide) | (exfalso; omega)
      · rw [cif_neg q3]
        rw [if_neg q3] at hcp
        refine E_iload_n dX10_turnsOn_0 rfl ?_
        refine E_callSR dX10_turnsOn_1 lkX10_92 (hsi) ?_
        refine E_if_eq 18 dX10_turnsOn_4 (fun h4 => ?_) (fun h4 => ?_)
        · -- 18
          first | exact absurd h4 (by decide) | (exfalso; omega)
        · -- 7
          refine E_iload_n dX10_turnsOn_7 rfl ?_
          refine E_iconst dX10_turnsOn_8 ?_
          refine E_icmp_lt 18 dX10_turnsOn_9 (fun h9 => ?_) (fun h9 => ?_)
          · -- 18
            first | exact absurd h4 (by decide) | (exfalso; omega)
          · -- 12
            refine E_iload_n dX10_turnsOn_12 rfl ?_
            refine E_bipush dX10_turnsOn_13 ?_
            refine E_icmp_le 20 dX10_turnsOn_15 (fun h15 => ?_) (fun h15 => ?_)
            · -- 20
              refine E_aload_n dX10_turnsOn_20 rfl ?_
              refine GX10_10 sk_0 dX10_turnsOn_21 ?_
              refine GX10_104 sk_1 dX10_turnsOn_24 ?_
              refine E_iload_n dX10_turnsOn_27 rfl ?_
              refine H_aald4 sk_2 dX10_turnsOn_28 (sp_at q1) ?_
              refine E_iload_n dX10_turnsOn_29 rfl ?_
              refine E_callVR dX10_turnsOn_30 lkX10_144 (Hp_get hf.1) (hcp) ?_
              refine E_if_ne 39 dX10_turnsOn_33 (fun h33 => ?_) (fun h33 => ?_)
              · -- 39
                exact absurd rfl h33
              · -- 36
                refine E_bipush dX10_turnsOn_36 ?_
                refine E_iret dX10_turnsOn_38 ?_
                exact ⟨rfl, _, rfl, hC, fun _ _ => rfl⟩
            · -- 18
              first | exact absurd h4 (by decide) | (exfalso; omega)
    · rw [bad (fun h => q2 h.2)]
      refine E_iload_n dX10_turnsOn_0 rfl ?_
      refine E_callSR dX10_turnsOn_1 lkX10_92 (hsi) ?_
      refine E_if_eq 18 dX10_turnsOn_4 (fun h4 => ?_) (fun h4 => ?_)
      · -- 18
        refine E_iconst dX10_turnsOn_18 ?_
        refine E_iret dX10_turnsOn_19 ?_
        exact ⟨rfl, _, rfl, hC, fun _ _ => rfl⟩
      · -- 7
        refine E_iload_n dX10_turnsOn_7 rfl ?_
        refine E_iconst dX10_turnsOn_8 ?_
        refine E_icmp_lt 18 dX10_turnsOn_9 (fun h9 => ?_) (fun h9 => ?_)
        · -- 18
          refine E_iconst dX10_turnsOn_18 ?_
          refine E_iret dX10_turnsOn_19 ?_
          exact ⟨rfl, _, rfl, hC, fun _ _ => rfl⟩
        · -- 12
          refine E_iload_n dX10_turnsOn_12 rfl ?_
          refine E_bipush dX10_turnsOn_13 ?_
          refine E_icmp_le 20 dX10_turnsOn_15 (fun h15 => ?_) (fun h15 => ?_)
          · -- 20
            exfalso; omega
          · -- 18
            refine E_iconst dX10_turnsOn_18 ?_
            refine E_iret dX10_turnsOn_19 ?_
            exact ⟨rfl, _, rfl, hC, fun _ _ => rfl⟩
  · rw [bad (fun h => q1 h.1)]
    rw [cif_neg q1] at hsi
    refine E_iload_n dX10_turnsOn_0 rfl ?_
    refine E_callSR dX10_turnsOn_1 lkX10_92 (hsi) ?_
    refine E_if_eq 18 dX10_turnsOn_4 (fun h4 => ?_) (fun h4 => ?_)
    · -- 18
      refine E_iconst dX10_turnsOn_18 ?_
      refine E_iret dX10_turnsOn_19 ?_
      exact ⟨rfl, _, rfl, hC, fun _ _ => rfl⟩
    · -- 7
      exact absurd rfl h4
theorem cop_mem {m : Int} {l : List Fib} (h : cop m l = true) : ∀ x ∈ l, Int.gcd x.1 m = 1 := fun x hx => by
  have := List.all_eq_true.mp h x hx
  simpa using this
theorem carry_rng {m : Int} (hm : 2 ≤ m ∧ m ≤ 9) : ∀ {l : List Fib}, (∀ x ∈ l, fibOk x) → 0 ≤ carry m l ∧ carry m l ≤ 10 * l.length
  | [], _ => by simp [carry]
  | x :: l, h => by
    have h1 := carry_rng hm (l := l) (fun z hz => h z (List.mem_cons_of_mem _ hz))
    obtain ⟨x1, x2, x3, x4, -⟩ := h x List.mem_cons_self
    have b1 := Int.emod_nonneg (x.2 * invI m x.1) (show x.1 ≠ 0 by omega)
    have b2 := Int.emod_lt_of_pos (x.2 * invI m x.1) (show 0 < x.1 by omega)
    have b3 : 0 ≤ x.2 * invI m x.1 % x.1 * m / x.1 := Int.ediv_nonneg (Int.mul_nonneg b1 (by omega)) (by omega)
    have t2 := Int.mul_le_mul_of_nonneg_left (show m ≤ 9 by omega) b1
    have b4 : x.2 * invI m x.1 % x.1 * m / x.1 ≤ 10 := Int.ediv_le_of_le_mul (by omega) (by omega)
    have e : carry m (x :: l) = x.2 * invI m x.1 % x.1 * m / x.1 + carry m l := by simp [carry, prt]
    rw [e]
    simp only [List.length_cons]
    omega
theorem div2_rng {x m : Int} (hx : -2000 ≤ x ∧ x ≤ 2000) (hm : 2 ≤ m ∧ m ≤ 9) : -2000 ≤ x / m ∧ x / m ≤ 2000 := ⟨Int.le_ediv_of_mul_le (by omega) (by omega), Int.ediv_le_of_le_mul (by omega) (by omega)⟩
theorem c_unwraps {i m : Int} (hi : -2147483648 ≤ i ∧ i < 2147483648) (hm : -2147483648 ≤ m ∧ m < 2147483648) (hC : RepC μ σ) (hok : stOk σ) : Ctr G mX10_unwraps [.ref 0, vi i, vi m] (Hp μ) (CQ μ (sUnwraps σ i m)) := by
  refine Ctr.of ?_
  have hsi := c_isSpace (G := G) (M := Hp μ) hi
  have bad : ¬ (isS i ∧ 2 ≤ m ∧ m ≤ 9) → sUnwraps σ i m = (-1, σ) := fun h => cif_pos h
  by_cases q1 : isS i
  · rw [cif_pos q1] at hsi
    have hf := isSp_sh q1
    have lt := at_lt q1
    have j1 := q1.1
    have j2 := q1.2
    have hs := rep_at q1 hC.1
    have ho := ok_at q1 hok.1
    by_cases q2 : 2 ≤ m ∧ m ≤ 9
    · rw [show sUnwraps σ i m = _ from cif_neg (not_not_intro ⟨q1, q2⟩)]
      have hcp := c_isCoprimeTo (G := G) hf hs ho q2
      have g0 := ho.1
      have g1 := ho.2.1
      have g2 := ho.2.2.1
      have g3 := ho.2.2.2.1
      have g4 := ho.2.2.2.2.1
      have g5 := ho.2.2.2.2.2.1
      have kc := carry_rng q2 ho.2.2.2.2.2.2
      have kd := div2_rng (x := (σ.1 i.toNat).2.2.1 - carry m (σ.1 i.toNat).2.2.2) (by omega) q2
      by_cases q3 : cop m (σ.1 i.toNat).2.2.2 = true
      · rw [if_pos q3] at hcp
        have hpt := c_becomePart (G := G) isSp_150 hf (by omega) q2 hs ho (cop_mem q3)
        by_cases q4 : ((σ.1 i.toNat).2.2.1 - carry m (σ.1 i.toNat).2.2.2) / m * m = (σ.1 i.toNat).2.2.1 - carry m (σ.1 i.toNat).2.2.2
        · rw [cif_pos ⟨q3, q4⟩]
          rw [if_pos q4] at hpt
          refine E_iload_n dX10_unwraps_0 rfl ?_
          refine E_callSR dX10_unwraps_1 lkX10_92 (hsi) ?_
          refine E_if_eq 18 dX10_unwraps_4 (fun h4 => ?_) (fun h4 => ?_)
          · -- 18
            first | exact absurd h4 (by decide) | (exfalso; omega)
          · -- 7
            refine E_iload_n dX10_unwraps_7 rfl ?_
            refine E_iconst dX10_unwraps_8 ?_
            refine E_icmp_lt 18 dX10_unwraps_9 (fun h9 => ?_) (fun h9 => ?_)
            · -- 18
              first | exact absurd h4 (by decide) | (exfalso; omega)
            · -- 12
              refine E_iload_n dX10_unwraps_12 rfl ?_
              refine E_bipush dX10_unwraps_13 ?_
              refine E_icmp_le 20 dX10_unwraps_15 (fun h15 => ?_) (fun h15 => ?_)
              · -- 20
                refine E_aload_n dX10_unwraps_20 rfl ?_
                refine GX10_10 sk_0 dX10_unwraps_21 ?_
                refine GX10_104 sk_1 dX10_unwraps_24 ?_
                refine E_iload_n dX10_unwraps_27 rfl ?_
                refine H_aald4 sk_2 dX10_unwraps_28 (sp_at q1) ?_
                refine E_iload_n dX10_unwraps_29 rfl ?_
                refine E_callVR dX10_unwraps_30 lkX10_144 (Hp_get hf.1) (hcp) ?_
                refine E_if_eq 56 dX10_unwraps_33 (fun h33 => ?_) (fun h33 => ?_)
                · -- 56
                  first | exact absurd h33 (by decide) | exact absurd h53 (by decide)
                · -- 36
                  refine E_aload_n dX10_unwraps_36 rfl ?_
                  refine GX10_48 sk_0 dX10_unwraps_37 ?_
                  refine E_aload_n dX10_unwraps_40 rfl ?_
                  refine GX10_10 sk_0 dX10_unwraps_41 ?_
                  refine GX10_104 sk_1 dX10_unwraps_44 ?_
                  refine E_iload_n dX10_unwraps_47 rfl ?_
                  refine H_aald4 sk_2 dX10_unwraps_48 (sp_at q1) ?_
                  refine E_iload_n dX10_unwraps_49 rfl ?_
                  refine E_callVW dX10_unwraps_50 lkX10_147 (Hp_get sk_150) (hpt) ?_
                  rintro μ1 ⟨a1, a2⟩
                  refine E_if_ne 59 dX10_unwraps_53 (fun h53 => ?_) (fun h53 => ?_)
                  · -- 59
                    refine E_aload_n dX10_unwraps_59 rfl ?_
                    refine E_iload_n dX10_unwraps_60 rfl ?_
                    refine E_iconst dX10_unwraps_61 ?_
                    refine E_callVP dX10_unwraps_62 lkX10_100 (Hp_get sk_0) (c_settle (a := 1) q1 (hC.off a2 (by omega)) hok a1 (by simp only; omega) (by simp only; omega)) ?_
                    intro v M' hv
                    obtain ⟨rfl, -⟩ := id hv
                    exact E_iret dX10_unwraps_65 (CQ.pre (fun q hq => a2 q (by omega)) hv)
                    skip
                  · -- 56
                    first | exact absurd h33 (by decide) | exact absurd h53 (by decide)
              · -- 18
                first | exact absurd h4 (by decide) | (exfalso; omega)
        · rw [cif_neg (fun h => q4 h.2)]
          rw [if_neg q4] at hpt
          refine E_iload_n dX10_unwraps_0 rfl ?_
          refine E_callSR dX10_unwraps_1 lkX10_92 (hsi) ?_
          refine E_if_eq 18 dX10_unwraps_4 (fun h4 => ?_) (fun h4 => ?_)
          · -- 18
            first | exact absurd h4 (by decide) | (exfalso; omega)
          · -- 7
            refine E_iload_n dX10_unwraps_7 rfl ?_
            refine E_iconst dX10_unwraps_8 ?_
            refine E_icmp_lt 18 dX10_unwraps_9 (fun h9 => ?_) (fun h9 => ?_)
            · -- 18
              first | exact absurd h4 (by decide) | (exfalso; omega)
            · -- 12
              refine E_iload_n dX10_unwraps_12 rfl ?_
              refine E_bipush dX10_unwraps_13 ?_
              refine E_icmp_le 20 dX10_unwraps_15 (fun h15 => ?_) (fun h15 => ?_)
              · -- 20
                refine E_aload_n dX10_unwraps_20 rfl ?_
                refine GX10_10 sk_0 dX10_unwraps_21 ?_
                refine GX10_104 sk_1 dX10_unwraps_24 ?_
                refine E_iload_n dX10_unwraps_27 rfl ?_
                refine H_aald4 sk_2 dX10_unwraps_28 (sp_at q1) ?_
                refine E_iload_n dX10_unwraps_29 rfl ?_
                refine E_callVR dX10_unwraps_30 lkX10_144 (Hp_get hf.1) (hcp) ?_
                refine E_if_eq 56 dX10_unwraps_33 (fun h33 => ?_) (fun h33 => ?_)
                · -- 56
                  first | exact absurd h33 (by decide) | (refine E_bipush dX10_unwraps_56 ?_; exact E_iret dX10_unwraps_58 ⟨rfl, _, rfl, hC.off a2 (by omega), fun q hq => a2 q (by omega)⟩)
                · -- 36
                  refine E_aload_n dX10_unwraps_36 rfl ?_
                  refine GX10_48 sk_0 dX10_unwraps_37 ?_
                  refine E_aload_n dX10_unwraps_40 rfl ?_
                  refine GX10_10 sk_0 dX10_unwraps_41 ?_
                  refine GX10_104 sk_1 dX10_unwraps_44 ?_
                  refine E_iload_n dX10_unwraps_47 rfl ?_
                  refine H_aald4 sk_2 dX10_unwraps_48 (sp_at q1) ?_
                  refine E_iload_n dX10_unwraps_49 rfl ?_
                  refine E_callVW dX10_unwraps_50 lkX10_147 (Hp_get sk_150) (hpt) ?_
                  rintro μ1 ⟨a1, a2⟩
                  refine E_if_ne 59 dX10_unwraps_53 (fun h53 => ?_) (fun h53 => ?_)
                  · -- 59
                    exact absurd rfl h53
                  · -- 56
                    first | exact absurd h33 (by decide) | (refine E_bipush dX10_unwraps_56 ?_; exact E_iret dX10_unwraps_58 ⟨rfl, _, rfl, hC.off a2 (by omega), fun q hq => a2 q (by omega)⟩)
              · -- 18
                first | exact absurd h4 (by decide) | (exfalso; omega)
      · rw [cif_neg (fun h => q3 h.1)]
        rw [if_neg q3] at hcp
        refine E_iload_n dX10_unwraps_0 rfl ?_
        refine E_callSR dX10_unwraps_1 lkX10_92 (hsi) ?_
        refine E_if_eq 18 dX10_unwraps_4 (fun h4 => ?_) (fun h4 => ?_)
        · -- 18
          first | exact absurd h4 (by decide) | (exfalso; omega)
        · -- 7
          refine E_iload_n dX10_unwraps_7 rfl ?_
          refine E_iconst dX10_unwraps_8 ?_
          refine E_icmp_lt 18 dX10_unwraps_9 (fun h9 => ?_) (fun h9 => ?_)
          · -- 18
            first | exact absurd h4 (by decide) | (exfalso; omega)
          · -- 12
            refine E_iload_n dX10_unwraps_12 rfl ?_
            refine E_bipush dX10_unwraps_13 ?_
            refine E_icmp_le 20 dX10_unwraps_15 (fun h15 => ?_) (fun h15 => ?_)
            · -- 20
              refine E_aload_n dX10_unwraps_20 rfl ?_
              refine GX10_10 sk_0 dX10_unwraps_21 ?_
              refine GX10_104 sk_1 dX10_unwraps_24 ?_
              refine E_iload_n dX10_unwraps_27 rfl ?_
              refine H_aald4 sk_2 dX10_unwraps_28 (sp_at q1) ?_
              refine E_iload_n dX10_unwraps_29 rfl ?_
              refine E_callVR dX10_unwraps_30 lkX10_144 (Hp_get hf.1) (hcp) ?_
              refine E_if_eq 56 dX10_unwraps_33 (fun h33 => ?_) (fun h33 => ?_)
              · -- 56
                refine E_bipush dX10_unwraps_56 ?_
                refine E_iret dX10_unwraps_58 ?_
                exact ⟨rfl, _, rfl, hC, fun _ _ => rfl⟩
              · -- 36
                exact absurd rfl h33
            · -- 18
              first | exact absurd h4 (by decide) | (exfalso; omega)
    · rw [bad (fun h => q2 h.2)]
      refine E_iload_n dX10_unwraps_0 rfl ?_
      refine E_callSR dX10_unwraps_1 lkX10_92 (hsi) ?_
      refine E_if_eq 18 dX10_unwraps_4 (fun h4 => ?_) (fun h4 => ?_)
      · -- 18
        refine E_iconst dX10_unwraps_18 ?_
        refine E_iret dX10_unwraps_19 ?_
        exact ⟨rfl, _, rfl, hC, fun _ _ => rfl⟩
      · -- 7
        refine E_iload_n dX10_unwraps_7 rfl ?_
        refine E_iconst dX10_unwraps_8 ?_
        refine E_icmp_lt 18 dX10_unwraps_9 (fun h9 => ?_) (fun h9 => ?_)
        · -- 18
          refine E_iconst dX10_unwraps_18 ?_
          refine E_iret dX10_unwraps_19 ?_
          exact ⟨rfl, _, rfl, hC, fun _ _ => rfl⟩
        · -- 12
          refine E_iload_n dX10_unwraps_12 rfl ?_
          refine E_bipush dX10_unwraps_13 ?_
          refine E_icmp_le 20 dX10_unwraps_15 (fun h15 => ?_) (fun h15 => ?_)
          · -- 20
            exfalso; omega
          · -- 18
            refine E_iconst dX10_unwraps_18 ?_
            refine E_iret dX10_unwraps_19 ?_
            exact ⟨rfl, _, rfl, hC, fun _ _ => rfl⟩
  · rw [bad (fun h => q1 h.1)]
    rw [cif_neg q1] at hsi
    refine E_iload_n dX10_unwraps_0 rfl ?_
    refine E_callSR dX10_unwraps_1 lkX10_92 (hsi) ?_
    refine E_if_eq 18 dX10_unwraps_4 (fun h4 => ?_) (fun h4 => ?_)
    · -- 18
      refine E_iconst dX10_unwraps_18 ?_
      refine E_iret dX10_unwraps_19 ?_
      exact ⟨rfl, _, rfl, hC, fun _ _ => rfl⟩
    · -- 7
      exact absurd rfl h4
theorem cov_sh : ∀ (n : Nat) (l : List Fib) (d : Sp), (∀ x ∈ l, fibOk x) → (cov n l d).1 = d.1 ∧ (cov n l d).2.1 = d.2.1 ∧ d.2.2.1 - 100 * l.length * n ≤ (cov n l d).2.2.1 ∧ (cov n l d).2.2.1 ≤ d.2.2.1 + 100 * l.length * n
  | 0, l, d, _ => by simp [cov]
  | n + 1, l, d, h => by
    have h1 := cov_sh n l (putAll d l 1) h
    have h2 := putAll_sh (m := 1) (by omega) l d h
    have e : (100 * (l.length : Int)) * ((n + 1 : Nat) : Int) = 100 * l.length * n + 100 * l.length := by rw [Int.natCast_add, Int.mul_add]; simp
    have e2 : cov (n + 1) l d = cov n l (putAll d l 1) := rfl
    rw [e2, e]
    exact ⟨h1.1.trans h2.1, h1.2.1.trans h2.2.1, by omega, by omega⟩
theorem covD_rng {s : Sp} {n : Nat} (hok : spOk s) (hn : 2 ≤ n ∧ n ≤ 3) (hg : s.1 + 1 ≤ s.2.1) : (covD s n).1 = s.1 ∧ 0 ≤ (covD s n).2.1 ∧ (covD s n).2.1 ≤ 20 ∧ -20000 ≤ (covD s n).2.2.1 ∧ (covD s n).2.2.1 ≤ 20000 ∧ (covD s n).2.1 = n * (s.2.1 - (s.1 + 1)) + (s.1 + 1) := by
  have h1 := cov_sh n s.2.2.2 (s.1, n * (s.2.1 - (s.1 + 1)) + (s.1 + 1), s.2.2.1 * n, []) hok.2.2.2.2.2.2
  have a0 := hok.1
  have a1 := hok.2.2.1
  have a2 := hok.2.2.2.1
  have a3 := hok.2.2.2.2.1
  have a4 := hok.2.2.2.2.2.1
  simp only at h1
  unfold covD
  rcases (show n = 2 ∨ n = 3 by omega) with rfl | rfl
  · refine ⟨h1.1, ?_, ?_, ?_, ?_, h1.2.1⟩ <;> omega
  · refine ⟨h1.1, ?_, ?_, ?_, ?_, h1.2.1⟩ <;> omega
theorem c_unrolls {i d : Int} (hi : -2147483648 ≤ i ∧ i < 2147483648) (hd : -2147483648 ≤ d ∧ d < 2147483648) (hC : RepC μ σ) (hok : stOk σ) : Ctr G mX10_unrolls [.ref 0, vi i, vi d] (Hp μ) (CQ μ (sUnrolls σ i d)) := by
  refine Ctr.of ?_
  have hsi := c_isSpace (G := G) (M := Hp μ) hi
  have bad : ¬ (isS i ∧ 2 ≤ d ∧ d ≤ 3) → sUnrolls σ i d = (-1, σ) := fun h => cif_pos h
  by_cases q1 : isS i
  · rw [cif_pos q1] at hsi
    have hf := isSp_sh q1
    have lt := at_lt q1
    have j1 := q1.1
    have j2 := q1.2
    have hs := rep_at q1 hC.1
    have ho := ok_at q1 hok.1
    have g0 := ho.1
    have g1 := ho.2.1
    have g2 := ho.2.2.1
    have e0 := hs.1
    have e1 := hs.2.1
    by_cases q2 : 2 ≤ d ∧ d ≤ 3
    · rw [show sUnrolls σ i d = _ from cif_neg (not_not_intro ⟨q1, q2⟩)]
      by_cases q3 : (σ.1 i.toNat).2.1 < (σ.1 i.toNat).1 + 1
      · rw [cif_pos q3]
        refine E_iload_n dX10_unrolls_0 rfl ?_
        refine E_callSR dX10_unrolls_1 lkX10_92 (hsi) ?_
        refine E_if_eq 17 dX10_unrolls_4 (fun h4 => ?_) (fun h4 => ?_)
        · -- 17
          first | exact absurd h4 (by decide) | (exfalso; omega)
        · -- 7
          refine E_iload_n dX10_unrolls_7 rfl ?_
          refine E_iconst dX10_unrolls_8 ?_
          refine E_icmp_lt 17 dX10_unrolls_9 (fun h9 => ?_) (fun h9 => ?_)
          · -- 17
            first | exact absurd h4 (by decide) | (exfalso; omega)
          · -- 12
            refine E_iload_n dX10_unrolls_12 rfl ?_
            refine E_iconst dX10_unrolls_13 ?_
            refine E_icmp_le 19 dX10_unrolls_14 (fun h14 => ?_) (fun h14 => ?_)
            · -- 19
              refine E_aload_n dX10_unrolls_19 rfl ?_
              refine GX10_10 sk_0 dX10_unrolls_20 ?_
              refine GX10_104 sk_1 dX10_unrolls_23 ?_
              refine E_iload_n dX10_unrolls_26 rfl ?_
              refine H_aald4 sk_2 dX10_unrolls_27 (sp_at q1) ?_
              refine E_astore_n dX10_unrolls_28 ?_
              refine E_aload_n dX10_unrolls_29 rfl ?_
              refine GX10_151 hf.1 dX10_unrolls_30 ?_
              refine E_aload_n dX10_unrolls_33 rfl ?_
              refine GX10_154 hf.1 dX10_unrolls_34 ?_
              refine E_iconst dX10_unrolls_37 ?_
              refine E_iadd dX10_unrolls_38 ?_
              refine E_icmp_ge 45 dX10_unrolls_39 (fun h39 => ?_) (fun h39 => ?_)
              · -- 45
                exfalso; omega
              · -- 42
                refine E_bipush dX10_unrolls_42 ?_
                refine E_iret dX10_unrolls_44 ?_
                exact ⟨rfl, _, rfl, hC, fun _ _ => rfl⟩
            · -- 17
              first | exact absurd h4 (by decide) | (exfalso; omega)
      · rw [cif_neg q3]
        have hk0 : ((d.toNat : Nat) : Int) = d := by omega
        have hcv := c_becomeCovering (G := G) (n := d.toNat) isSp_150 hf (by omega) hs ho (by omega)
        rw [hk0] at hcv
        have hr := covD_rng ho (n := d.toNat) (by omega) (by omega)
        refine E_iload_n dX10_unrolls_0 rfl ?_
        refine E_callSR dX10_unrolls_1 lkX10_92 (hsi) ?_
        refine E_if_eq 17 dX10_unrolls_4 (fun h4 => ?_) (fun h4 => ?_)
        · -- 17
          first | exact absurd h4 (by decide) | (exfalso; omega)
        · -- 7
          refine E_iload_n dX10_unrolls_7 rfl ?_
          refine E_iconst dX10_unrolls_8 ?_
          refine E_icmp_lt 17 dX10_unrolls_9 (fun h9 => ?_) (fun h9 => ?_)
          · -- 17
            first | exact absurd h4 (by decide) | (exfalso; omega)
          · -- 12
            refine E_iload_n dX10_unrolls_12 rfl ?_
            refine E_iconst dX10_unrolls_13 ?_
            refine E_icmp_le 19 dX10_unrolls_14 (fun h14 => ?_) (fun h14 => ?_)
            · -- 19
              refine E_aload_n dX10_unrolls_19 rfl ?_
              refine GX10_10 sk_0 dX10_unrolls_20 ?_
              refine GX10_104 sk_1 dX10_unrolls_23 ?_
              refine E_iload_n dX10_unrolls_26 rfl ?_
              refine H_aald4 sk_2 dX10_unrolls_27 (sp_at q1) ?_
              refine E_astore_n dX10_unrolls_28 ?_
              refine E_aload_n dX10_unrolls_29 rfl ?_
              refine GX10_151 hf.1 dX10_unrolls_30 ?_
              refine E_aload_n dX10_unrolls_33 rfl ?_
              refine GX10_154 hf.1 dX10_unrolls_34 ?_
              refine E_iconst dX10_unrolls_37 ?_
              refine E_iadd dX10_unrolls_38 ?_
              refine E_icmp_ge 45 dX10_unrolls_39 (fun h39 => ?_) (fun h39 => ?_)
              · -- 45
                refine E_aload_n dX10_unrolls_45 rfl ?_
                refine GX10_48 sk_0 dX10_unrolls_46 ?_
                refine E_aload_n dX10_unrolls_49 rfl ?_
                refine E_iload_n dX10_unrolls_50 rfl ?_
                refine E_callVV dX10_unrolls_51 lkX10_157 (Hp_get sk_150) (hcv) ?_
                rintro μ1 ⟨a1, a2⟩
                have a1' : RepD μ1 150 (covD (σ.1 i.toNat) d.toNat) := by unfold covD; rw [hk0]; exact a1
                exact setN hC hok q1 a1' (by omega) (by omega) a2 dX10_unrolls_54 dX10_unrolls_55 dX10_unrolls_56 dX10_unrolls_57 dX10_unrolls_60 dX10_unrolls_63 dX10_unrolls_66
                skip
              · -- 42
                exfalso; omega
            · -- 17
              first | exact absurd h4 (by decide) | (exfalso; omega)
    · rw [bad (fun h => q2 h.2)]
      refine E_iload_n dX10_unrolls_0 rfl ?_
      refine E_callSR dX10_unrolls_1 lkX10_92 (hsi) ?_
      refine E_if_eq 17 dX10_unrolls_4 (fun h4 => ?_) (fun h4 => ?_)
      · -- 17
        refine E_iconst dX10_unrolls_17 ?_
        refine E_iret dX10_unrolls_18 ?_
        exact ⟨rfl, _, rfl, hC, fun _ _ => rfl⟩
      · -- 7
        refine E_iload_n dX10_unrolls_7 rfl ?_
        refine E_iconst dX10_unrolls_8 ?_
        refine E_icmp_lt 17 dX10_unrolls_9 (fun h9 => ?_) (fun h9 => ?_)
        · -- 17
          refine E_iconst dX10_unrolls_17 ?_
          refine E_iret dX10_unrolls_18 ?_
          exact ⟨rfl, _, rfl, hC, fun _ _ => rfl⟩
        · -- 12
          refine E_iload_n dX10_unrolls_12 rfl ?_
          refine E_iconst dX10_unrolls_13 ?_
          refine E_icmp_le 19 dX10_unrolls_14 (fun h14 => ?_) (fun h14 => ?_)
          · -- 19
            exfalso; omega
          · -- 17
            refine E_iconst dX10_unrolls_17 ?_
            refine E_iret dX10_unrolls_18 ?_
            exact ⟨rfl, _, rfl, hC, fun _ _ => rfl⟩
  · rw [bad (fun h => q1 h.1)]
    rw [cif_neg q1] at hsi
    refine E_iload_n dX10_unrolls_0 rfl ?_
    refine E_callSR dX10_unrolls_1 lkX10_92 (hsi) ?_
    refine E_if_eq 17 dX10_unrolls_4 (fun h4 => ?_) (fun h4 => ?_)
    · -- 17
      refine E_iconst dX10_unrolls_17 ?_
      refine E_iret dX10_unrolls_18 ?_
      exact ⟨rfl, _, rfl, hC, fun _ _ => rfl⟩
    · -- 7
      exact absurd rfl h4
theorem c_undo (hC : RepC μ σ) (hok : stOk σ) : Ctr G mX10_undo [.ref 0] (Hp μ) (CQ μ (sUndo σ)) := by
  refine Ctr.of ?_
  obtain ⟨sh, past, im, tx, ob⟩ := σ
  obtain ⟨c1, c2, c3, c4, c5⟩ := id hC
  simp only at c1 c2 c3 c4 c5
  have hsz : μ 21 2 = past.length := by obtain ⟨nx, -, -, d3, -⟩ := c2; exact d3
  have h6 := hok.2.2.1
  simp only at h6
  match past, c2, hsz, hC, hok, h6 with
  | [], c2, hsz, hC, hok, h6 =>
    simp only [List.length_nil] at hsz
    refine E_aload_n dX10_undo_0 rfl ?_
    refine GX10_19 sk_0 dX10_undo_1 ?_
    refine GX10_160 sk_21 dX10_undo_4 ?_
    refine E_if_gt 13 dX10_undo_7 (fun h7 => ?_) (fun h7 => ?_)
    · -- 13
      exfalso; omega
    · -- 10
      refine E_bipush dX10_undo_10 ?_
      refine E_iret dX10_undo_12 ?_
      exact ⟨rfl, _, rfl, hC, fun _ _ => rfl⟩
  | p :: t, c2, hsz, hC, hok, h6 =>
    simp only [List.length_cons] at hsz h6
    refine E_aload_n dX10_undo_0 rfl ?_
    refine GX10_19 sk_0 dX10_undo_1 ?_
    refine GX10_160 sk_21 dX10_undo_4 ?_
    refine E_if_gt 13 dX10_undo_7 (fun h7 => ?_) (fun h7 => ?_)
    · -- 13
      refine E_aload_n dX10_undo_13 rfl ?_
      refine GX10_19 sk_0 dX10_undo_14 ?_
      refine E_aload_n dX10_undo_17 rfl ?_
      refine GX10_10 sk_0 dX10_undo_18 ?_
      refine E_callVV dX10_undo_21 lkX10_163 (Hp_get sk_21) (c_restore (sh0 := p) (hok.2.1 p (by simp)) c2) ?_
      rintro μ1 ⟨a1, a2, a3⟩
      have hsz1 : μ1 21 2 = t.length := by obtain ⟨nx, -, -, d3, -⟩ := a1; exact d3
      refine E_aload_n dX10_undo_24 rfl ?_
      refine GX10_19 sk_0 dX10_undo_25 ?_
      refine GX10_160 sk_21 dX10_undo_28 ?_
      rw [hsz1]
      refine E_iret dX10_undo_31 ?_
      exact ⟨rfl, _, rfl, ⟨a2, a1, c3.off a3 (by omega), c4.off a3 (by omega), c5.off a3 (by omega)⟩, fun q hq => a3 q (by omega)⟩
    · -- 10
      exfalso; omega
/-! what a text describes is a space -/
theorem fib_put {a b : Int} (ha : 2 ≤ a ∧ a ≤ 30) (hg : Int.gcd a b = 1) : fibOk (a, b % a) := by
  have h1 := Int.emod_nonneg b (show a ≠ 0 by omega)
  have h2 := Int.emod_lt_of_pos b (show 0 < a by omega)
  have h3 : Int.gcd a (b % a) = 1 := by rw [Int.gcd_comm, gcd_em, Int.gcd_comm]; exact hg
  refine ⟨ha.1, ha.2, ?_, h2, h3⟩
  rcases (show b % a = 0 ∨ 1 ≤ b % a by omega) with h | h
  · rw [h, Int.gcd_zero_right] at h3; omega
  · exact h
theorem put_fib {d : Sp} {a b : Int} (ha : 1 ≤ a ∧ a ≤ 30) (hg : Int.gcd a b = 1) (hd : ∀ x ∈ d.2.2.2, fibOk x) : ∀ x ∈ (put d a b).2.2.2, fibOk x := by
  intro x hx
  simp only [put] at hx
  split at hx
  · next h =>
    rcases ins_mem hx with rfl | hx
    · exact fib_put (by omega) hg
    · exact hd x hx
  · exact hd x hx
def psGood (s : PS) : Prop := (∀ x ∈ s.2.2.2.2.2.2, fibOk x) ∧ (s.2.2.2.1 = 0 ∨ s.2.2.2.1 = 1) ∧ s.2.2.2.1 ≤ s.2.2.2.2.1 ∧ s.2.2.2.2.1 ≤ 4 ∧ -(100 * s.2.1) ≤ s.2.2.2.2.2.1 ∧ s.2.2.2.2.2.1 ≤ 100 * s.2.1 ∧ (s.2.2.2.2.2.2.length : Int) = s.2.2.1 ∧ s.2.2.1 ≤ 6 ∧ (s.1 = 0 → s.2.1 = 0 ∧ s.2.2.1 = 0)
theorem gcd_sB {a r : Int} {s : Int} (hs : s = 1 ∨ s = -1) (h : Int.gcd a r = 1) : Int.gcd a (s * r) = 1 := by
  rcases hs with rfl | rfl
  · rw [Int.one_mul]; exact h
  · rw [show (-1 : Int) * r = -r by omega, Int.gcd_neg]; exact h
theorem itemS_good {r : List Int} {s : PS} (hg : psGood s) (h0 : 0 ≤ s.1 ∧ 0 ≤ s.2.1) (h : (itemS r s).1 = true) : psGood (itemS r s).2.2 ∧ 0 ≤ (itemS r s).2.2.1 ∧ 0 ≤ (itemS r s).2.2.2.1 := by
  obtain ⟨o1, o2, o3, o4, o5, o6, o7, o8, o9⟩ := hg
  by_cases hb : tkK r = 111 ∨ tkK r = 110
  · have e1 : itemS r s = cif (s.1 = 0) (cif (okB r) (finS (nxt (nxt r)) (s.1, s.2.1, s.2.2.1, (kB r, tkV (nxt r), 0, []))) (false, nxt r, s)) (false, r, s) := cif_pos hb
    rw [e1] at h ⊢
    by_cases h0' : s.1 = 0
    · rw [cif_pos h0'] at h ⊢
      by_cases h1 : okB r
      · rw [cif_pos h1] at h ⊢
        obtain ⟨f1, f2, f3⟩ := finS_ok h
        rw [f3]
        have h2 := h1.2
        have kb : kB r = 0 ∨ kB r = 1 := by unfold kB; split <;> simp
        have h9 := o9 h0'
        refine ⟨⟨fun x hx => by simp at hx, kb, h2.1, h2.2, by simp only; omega, by simp only; omega, by simp only; rw [h9.2]; rfl, by simp only; omega, fun q => absurd q (by simp only; omega)⟩, by simp only; omega, by simp only; omega⟩
      · rw [cif_neg h1] at h; exact absurd h Bool.false_ne_true
    · rw [cif_neg h0'] at h; exact absurd h Bool.false_ne_true
  · have e1 : itemS r s = cif (tkK r = 102 ∧ s.2.1 < 8) (cif (okP1 r s.2.2.1) (cif (okP2 r) (finS (nxt (rB r)) (s.1, s.2.1 + 1, (if tkV (nxt r) = 1 then s.2.2.1 else s.2.2.1 + 1), put s.2.2.2 (tkV (nxt r)) (sB r * tkV (rB r)))) (false, rB r, s)) (false, nxt r, s)) (false, r, s) := cif_neg hb
    rw [e1] at h ⊢
    by_cases h0' : tkK r = 102 ∧ s.2.1 < 8
    · rw [cif_pos h0'] at h ⊢
      by_cases h1 : okP1 r s.2.2.1
      · rw [cif_pos h1] at h ⊢
        by_cases h2 : okP2 r
        · rw [cif_pos h2] at h ⊢
          obtain ⟨f1, f2, f3⟩ := finS_ok h
          rw [f3]
          have hm : mostA s.2.2.1 ≤ 30 ∧ (¬ s.2.2.1 < 6 → mostA s.2.2.1 = 1) := by unfold mostA; split <;> omega
          have h1' := h1.2
          have h2' := h2.1.2
          have ks : sB r = 1 ∨ sB r = -1 := by unfold sB; split <;> simp
          have kmul : -99 ≤ sB r * tkV (rB r) ∧ sB r * tkV (rB r) ≤ 99 := by rcases ks with q | q <;> rw [q] <;> omega
          have d1 : -99 ≤ sB r * tkV (rB r) / tkV (nxt r) := Int.le_ediv_of_mul_le (by omega) (by omega)
          have d2 : sB r * tkV (rB r) / tkV (nxt r) ≤ 99 := Int.ediv_le_of_le_mul (by omega) (by omega)
          have hlen : ((put s.2.2.2 (tkV (nxt r)) (sB r * tkV (rB r))).2.2.2.length : Int) = if tkV (nxt r) = 1 then s.2.2.1 else s.2.2.1 + 1 := by
            simp only [put]
            by_cases q : tkV (nxt r) = 1
            · rw [if_neg (by omega), if_pos q]; exact o7
            · rw [if_pos (by omega), if_neg q, ins_len]; omega
          refine ⟨⟨put_fib (by omega) (gcd_sB ks h2.2) o1, o2, o3, o4, by simp only [put]; omega, by simp only [put]; omega, hlen, ?_, fun q => absurd q (by simp only; omega)⟩, by simp only; omega, by simp only; omega⟩
          simp only; split <;> omega
        · rw [cif_neg h2] at h; exact absurd h Bool.false_ne_true
      · rw [cif_neg h1] at h; exact absurd h Bool.false_ne_true
    · rw [cif_neg h0'] at h; exact absurd h Bool.false_ne_true
theorem parseS_good : ∀ (n : Nat) (r : List Int) (s : PS), r.length < n → s.1 + r.length ≤ 100 → psGood s → psOk s → (parseS n r s).1 = true → psGood (parseS n r s).2.2 ∧ psOk (parseS n r s).2.2
  | 0, r, s, h, _, _, _, _ => by omega
  | n + 1, r, s, h, h100, hg, hok, ht => by
    by_cases hE : tkK r = 257
    · rw [show parseS (n + 1) r s = (true, r, s) from cif_pos hE]; exact ⟨hg, hok⟩
    · have hne : r ≠ [] := by rintro rfl; exact hE rfl
      have hlen : 0 < r.length := List.length_pos_iff.mpr hne
      have e : parseS (n + 1) r s = cif ((itemS r s).1 = true) (parseS n (itemS r s).2.1 (itemS r s).2.2) (false, (itemS r s).2.1, s) := cif_neg hE
      rw [e] at ht ⊢
      by_cases hi : (itemS r s).1 = true
      · rw [cif_pos hi] at ht ⊢
        obtain ⟨b1, b2, b3⟩ := itemS_ok hne hok (by omega) hi
        obtain ⟨c1, c2, c3⟩ := itemS_good hg ⟨hok.2.1, hok.2.2.2.1⟩ hi
        exact parseS_good n _ _ (by omega) (by omega) c1 b3 ht
      · rw [cif_neg hi] at ht; exact absurd ht Bool.false_ne_true
theorem tell_good {t : List Int} (hl : t.length ≤ 100) (h : (tellS t).1 = true) : spOk (tellS t).2.2.2.2.2 ∧ 0 ≤ (tellS t).2.2.1 ∧ (tellS t).2.2.1 ≤ 100 := by
  unfold tellS at h ⊢
  have hsl : (skipB t).length ≤ t.length := dw_len t
  obtain ⟨⟨o1, o2, o3, o4, o5, o6, o7, o8, o9⟩, p1, p2, p3, p4, p5, p6, p7⟩ := parseS_good 101 (skipB t) (0, 0, 0, (0, 0, 0, [])) (by omega) (by simp only; omega) ⟨fun x hx => by simp at hx, Or.inl rfl, by simp, by simp, by simp, by simp, by simp, by simp, fun _ => ⟨rfl, rfl⟩⟩ ⟨fun y hy => by simp at hy, by simp, by simp, by simp, by simp, by simp, by simp⟩ h
  exact ⟨⟨o2, o3, o4, by omega, by omega, by omega, o1⟩, p2, p3⟩
theorem itemS_suf {r : List Int} {s : PS} : (itemS r s).2.1.length ≤ r.length := by
  have n1 := (nxt_len r).1
  have n2 := (nxt_len (nxt r)).1
  have n3 := (nxt_len (nxt (nxt r))).1
  have n4 := rB_len r
  have n5 := (nxt_len (rB r)).1
  have n6 := (nxt_len (nxt (rB r))).1
  have hfin : ∀ r' (s' : PS), (finS r' s').2.1.length ≤ r'.length := fun r' s' => by
    have := (nxt_len r').1
    by_cases hk : tkK r' = 59
    · rw [show finS r' s' = _ from cif_pos hk]; exact this
    · rw [show finS r' s' = _ from cif_neg hk]; exact Nat.le_refl _
  have f1 := hfin (nxt (nxt r)) (s.1, s.2.1, s.2.2.1, (kB r, tkV (nxt r), 0, []))
  have f2 := hfin (nxt (rB r)) (s.1, s.2.1 + 1, (if tkV (nxt r) = 1 then s.2.2.1 else s.2.2.1 + 1), put s.2.2.2 (tkV (nxt r)) (sB r * tkV (rB r)))
  unfold itemS
  by_cases hb : tkK r = 111 ∨ tkK r = 110
  · rw [cif_pos hb]
    by_cases h0 : s.1 = 0
    · rw [cif_pos h0]
      by_cases h1 : okB r
      · rw [cif_pos h1]; omega
      · rw [cif_neg h1]; exact n1
    · rw [cif_neg h0]; exact Nat.le_refl _
  · rw [cif_neg hb]
    by_cases h0 : tkK r = 102 ∧ s.2.1 < 8
    · rw [cif_pos h0]
      by_cases h1 : okP1 r s.2.2.1
      · rw [cif_pos h1]
        by_cases h2 : okP2 r
        · rw [cif_pos h2]; omega
        · rw [cif_neg h2]; simp only; omega
      · rw [cif_neg h1]; exact n1
    · rw [cif_neg h0]; exact Nat.le_refl _
theorem parseS_suf : ∀ (n : Nat) (r : List Int) (s : PS), (parseS n r s).2.1.length ≤ r.length
  | 0, r, s => Nat.le_refl _
  | n + 1, r, s => by
    have h1 := itemS_suf (r := r) (s := s)
    have h2 := parseS_suf n (itemS r s).2.1 (itemS r s).2.2
    by_cases hE : tkK r = 257
    · rw [show parseS (n + 1) r s = _ from cif_pos hE]; exact Nat.le_refl _
    · have e : parseS (n + 1) r s = cif ((itemS r s).1 = true) (parseS n (itemS r s).2.1 (itemS r s).2.2) (false, (itemS r s).2.1, s) := cif_neg hE
      rw [e]
      by_cases hi : (itemS r s).1 = true
      · rw [cif_pos hi]; omega
      · rw [cif_neg hi]; exact h1
theorem tell_len {t : List Int} (h : ¬ (tellS t).1 = true) : (tellS t).2.1.length ≤ t.length := Nat.le_trans (parseS_suf _ _ _) (dw_len t)
theorem fit_of {d : Sp} (h : spOk d) : fitD d := ⟨h.2.2.2.2.2.1, h.2.2.1, h.2.2.2.1, h.2.2.2.2.1⟩
theorem c_tells {i : Int} (hi : -2147483648 ≤ i ∧ i < 2147483648) (hC : RepC μ σ) (hok : stOk σ) : Ctr G mX10_tells [.ref 0, vi i] (Hp μ) (CQ μ (sTells σ i)) := by
  refine Ctr.of ?_
  have hsi := c_isSpace (G := G) (M := Hp μ) hi
  by_cases q1 : isS i
  · rw [cif_pos q1] at hsi
    rw [show sTells σ i = _ from cif_neg (not_not_intro q1)]
    have hdes := c_describe (G := G) isSp_150 (by omega) hok.2.2.2.2.1 hC.2.2.2.1
    have htl := hok.2.2.2.2.2.1
    by_cases q2 : (tellS σ.2.2.2.1).1 = true
    · obtain ⟨g1, g2, g3⟩ := tell_good htl q2
      have hfit := fit_of g1
      rw [cif_pos q2, cif_pos hfit]
      have g4 := g1.1
      have g5 := g1.2.1
      have g6 := g1.2.2.1
      have g7 := g1.2.2.2.1
      have g8 := g1.2.2.2.2.1
      refine E_iload_n dX10_tells_0 rfl ?_
      refine E_callSR dX10_tells_1 lkX10_92 (hsi) ?_
      refine E_if_ne 9 dX10_tells_4 (fun h4 => ?_) (fun h4 => ?_)
      · -- 9
        refine E_aload_n dX10_tells_9 rfl ?_
        refine GX10_34 sk_0 dX10_tells_10 ?_
        refine E_aload_n dX10_tells_13 rfl ?_
        refine GX10_48 sk_0 dX10_tells_14 ?_
        refine E_callVP dX10_tells_17 lkX10_96 (Hp_get sk_145) (hdes) ?_
        rintro v M' ⟨μ1, rfl, a1, rfl, a3, a4⟩
        rw [if_pos q2]
        have hD := a4 q2
        have hC1 := hC.tell a3 a1
        generalize (tellS σ.2.2.2.1).2.2.1 = items at g2 g3 ⊢
        have hset := c_settle (G := G) (a := items) q1 hC1 hok hD (by omega) (by omega)
        refine E_istore_n dX10_tells_20 ?_
        refine E_iload_n dX10_tells_21 rfl ?_
        refine E_if_ge 27 dX10_tells_22 (fun h22 => ?_) (fun h22 => ?_)
        · -- 27
          refine E_aload_n dX10_tells_27 rfl ?_
          refine E_iload_n dX10_tells_28 rfl ?_
          refine E_iload_n dX10_tells_29 rfl ?_
          refine E_callVP dX10_tells_30 lkX10_100 (Hp_get sk_0) (hset) ?_
          rintro v M' ⟨rfl, μ2, rfl, b1, b2⟩
          rw [show sSettle σ i (tellS σ.2.2.2.1).2.2.2.2.2 items = _ from cif_pos hfit] at b1 ⊢
          simp only at b1 ⊢
          have ho2 : Off 145 1 μ2 (up μ2 145 1 0) := Off.rf.up (by omega) (by omega)
          refine E_istore_n dX10_tells_33 ?_
          refine E_iload_n dX10_tells_34 rfl ?_
          refine E_if_lt 46 dX10_tells_35 (fun h35 => ?_) (fun h35 => ?_)
          · -- 46
            first | (exfalso; omega) | (refine E_iload_n dX10_tells_46 rfl ?_; exact E_iret dX10_tells_47 ⟨rfl, _, rfl, ⟨b1.1.off ho2 (by omega), b1.2.1.off ho2 (by omega), b1.2.2.1.off ho2 (by omega), ⟨by rw [up_r, if_pos rfl]; rfl, by simp, RepV.nil⟩, b1.2.2.2.2.off ho2 (by omega)⟩, fun q hq => by rw [ho2 q (by omega), b2 q hq, a1 q (by omega) (by omega)]⟩)
          · -- 38
            refine E_aload_n dX10_tells_38 rfl ?_
            refine GX10_34 sk_0 dX10_tells_39 ?_
            refine E_iconst dX10_tells_42 ?_
            refine PX10_84 sk_145 dX10_tells_43 ?_
            first | (exfalso; omega) | (refine E_iload_n dX10_tells_46 rfl ?_; exact E_iret dX10_tells_47 ⟨rfl, _, rfl, ⟨b1.1.off ho2 (by omega), b1.2.1.off ho2 (by omega), b1.2.2.1.off ho2 (by omega), ⟨by rw [up_r, if_pos rfl]; rfl, by simp, RepV.nil⟩, b1.2.2.2.2.off ho2 (by omega)⟩, fun q hq => by rw [ho2 q (by omega), b2 q hq, a1 q (by omega) (by omega)]⟩)
        · -- 25
          exfalso; omega
      · -- 7
        exact absurd h4 (by decide)
    · rw [cif_neg q2]
      have hdl : (tellS σ.2.2.2.1).2.1.length ≤ σ.2.2.2.1.length ∨ True := Or.inr trivial
      refine E_iload_n dX10_tells_0 rfl ?_
      refine E_callSR dX10_tells_1 lkX10_92 (hsi) ?_
      refine E_if_ne 9 dX10_tells_4 (fun h4 => ?_) (fun h4 => ?_)
      · -- 9
        refine E_aload_n dX10_tells_9 rfl ?_
        refine GX10_34 sk_0 dX10_tells_10 ?_
        refine E_aload_n dX10_tells_13 rfl ?_
        refine GX10_48 sk_0 dX10_tells_14 ?_
        refine E_callVP dX10_tells_17 lkX10_96 (Hp_get sk_145) (hdes) ?_
        rintro v M' ⟨μ1, rfl, a1, rfl, a3, a4⟩
        rw [if_neg q2]
        have hC1 := hC.tell a3 a1
        have hR := tell_len q2
        refine E_istore_n dX10_tells_20 ?_
        refine E_iload_n dX10_tells_21 rfl ?_
        refine E_if_ge 27 dX10_tells_22 (fun h22 => ?_) (fun h22 => ?_)
        · -- 27
          exfalso; omega
        · -- 25
          refine E_iload_n dX10_tells_25 rfl ?_
          refine E_iret dX10_tells_26 ?_
          exact ⟨rfl, _, rfl, hC1, fun q hq => a1 q (by omega) (by omega)⟩
      · -- 7
        exact absurd h4 (by decide)
  · rw [cif_neg q1] at hsi
    rw [show sTells σ i = (-1, σ) from cif_pos q1]
    refine E_iload_n dX10_tells_0 rfl ?_
    refine E_callSR dX10_tells_1 lkX10_92 (hsi) ?_
    refine E_if_ne 9 dX10_tells_4 (fun h4 => ?_) (fun h4 => ?_)
    · -- 9
      exact absurd rfl h4
    · -- 7
      refine E_iconst dX10_tells_7 ?_
      refine E_iret dX10_tells_8 ?_
      exact ⟨rfl, _, rfl, hC, fun _ _ => rfl⟩
end CLASS
