/-! FibredSpaces: its calls against a pure state -/
abbrev Sh : Type := Nat → Sp
/-- shelf, shelves before the latest actions, images, text, observations -/
abbrev St : Type := Sh × List Sh × (Nat → Option Sh) × List Int × List (Int × Int)
def RepI (μ : Mem) (im : Nat → Option Sh) : Prop := ∀ k : Nat, k < 2 → (im k = none → μ 144 k = 0) ∧ ∀ g, im k = some g → μ 144 k = 1 ∧ RepSh μ (163 + 20 * k) g
def RepC (μ : Mem) (σ : St) : Prop := RepSh μ 1 σ.1 ∧ RepH μ σ.2.1 ∧ RepI μ σ.2.2.1 ∧ RepT μ σ.2.2.2.1 ∧ RepO μ σ.2.2.2.2
def stOk (σ : St) : Prop := shOk σ.1 ∧ (∀ p ∈ σ.2.1, shOk p) ∧ σ.2.1.length ≤ 6 ∧ (∀ k g, σ.2.2.1 k = some g → shOk g) ∧ txOk σ.2.2.2.1 ∧ σ.2.2.2.1.length ≤ 100 ∧ (∀ x ∈ σ.2.2.2.2, obOk x) ∧ σ.2.2.2.2.length ≤ 6
theorem RepH.off {μ μ' : Mem} {past : List Sh} {lo n : Nat} (h : RepH μ past) (ho : Off lo n μ μ') (hr : lo + n ≤ 21 ∨ 143 ≤ lo) : RepH μ' past := by
  obtain ⟨nx, h1, h2, h3, h4, h5⟩ := h
  exact ⟨nx, h1, by rw [ho 21 (by omega)]; exact h2, by rw [ho 21 (by omega)]; exact h3, h4, fun j sh hj => (h5 j sh hj).off ho (by omega)⟩
theorem RepI.off {μ μ' : Mem} {im : Nat → Option Sh} {lo n : Nat} (h : RepI μ im) (ho : Off lo n μ μ') (hr : lo + n ≤ 144 ∨ 145 ≤ lo ∧ lo + n ≤ 163 ∨ 203 ≤ lo) : RepI μ' im := by
  intro k hk
  obtain ⟨h1, h2⟩ := h k hk
  refine ⟨fun q => by rw [ho 144 (by omega)]; exact h1 q, fun g hg => ?_⟩
  obtain ⟨h3, h4⟩ := h2 g hg
  exact ⟨by rw [ho 144 (by omega)]; exact h3, h4.off ho (by omega)⟩
theorem RepT.off {μ μ' : Mem} {t : List Int} {lo n : Nat} (h : RepT μ t) (ho : Off lo n μ μ') (hr : lo + n ≤ 145 ∨ 147 ≤ lo) : RepT μ' t := ⟨by rw [ho 145 (by omega)]; exact h.1, h.2.1, h.2.2.kept (ho 146 (by omega))⟩
theorem RepO.off {μ μ' : Mem} {l : List (Int × Int)} {lo n : Nat} (h : RepO μ l) (ho : Off lo n μ μ') (hr : lo + n ≤ 147 ∨ 150 ≤ lo) : RepO μ' l := ⟨by rw [ho 147 (by omega)]; exact h.1, h.2.1, h.2.2.1.kept (ho 148 (by omega)), h.2.2.2.kept (ho 149 (by omega))⟩
theorem RepC.off {μ μ' : Mem} {σ : St} {lo n : Nat} (h : RepC μ σ) (ho : Off lo n μ μ') (hr : 150 ≤ lo ∧ lo + n ≤ 163 ∨ 203 ≤ lo) : RepC μ' σ := ⟨h.1.off ho (by omega), h.2.1.off ho (by omega), h.2.2.1.off ho (by omega), h.2.2.2.1.off ho (by omega), h.2.2.2.2.off ho (by omega)⟩
def CQ (μ : Mem) (R : Int × St) : QT := fun v M' => v = some (vi R.1) ∧ ∃ μ', M' = Hp μ' ∧ RepC μ' R.2 ∧ ∀ q : Nat, 203 ≤ q → μ' q = μ q
def CL (μ : Mem) (R : Int × St) : QT := fun v M' => v = some (vl R.1) ∧ ∃ μ', M' = Hp μ' ∧ RepC μ' R.2 ∧ ∀ q : Nat, 203 ≤ q → μ' q = μ q
def setSh (sh : Sh) (i : Nat) (d : Sp) : Sh := fun k => if k = i then d else sh k
def isS (i : Int) : Prop := 0 ≤ i ∧ i < 6
def fitD (d : Sp) : Prop := d.2.2.2.length ≤ 6 ∧ d.2.1 ≤ 4 ∧ -999 ≤ d.2.2.1 ∧ d.2.2.1 ≤ 999
/-- the end of an action -/
noncomputable def sSettle (σ : St) (i : Int) (d : Sp) (a : Int) : Int × St := cif (fitD d) (a, setSh σ.1 i.toNat d, (σ.1 :: σ.2.1).take 6, σ.2.2) (-3, σ)
noncomputable def sType (σ : St) (c : Int) : Int × St := cif (c < 0 ∨ 255 < c) (-1, σ) (cif (100 ≤ σ.2.2.2.1.length) (-3, σ) ((σ.2.2.2.1.length : Int) + 1, σ.1, σ.2.1, σ.2.2.1, σ.2.2.2.1 ++ [c], σ.2.2.2.2))
def sClear (σ : St) : Int × St := (σ.2.2.2.1.length, σ.1, σ.2.1, σ.2.2.1, [], σ.2.2.2.2)
noncomputable def sTells (σ : St) (i : Int) : Int × St := cif (¬ isS i) (-1, σ) (cif ((tellS σ.2.2.2.1).1 = true) (sSettle (σ.1, σ.2.1, σ.2.2.1, [], σ.2.2.2.2) i (tellS σ.2.2.2.1).2.2.2.2.2 (tellS σ.2.2.2.1).2.2.1) (-10 - ((σ.2.2.2.1.length : Int) - (tellS σ.2.2.2.1).2.1.length), σ))
def mulD (s : Sp) (m : Int) : Sp := putAll (s.1, s.2.1, s.2.2.1 * m, []) s.2.2.2 m
noncomputable def sMirrors (σ : St) (i : Int) : Int × St := cif (¬ isS i) (-1, σ) (sSettle σ i (mulD (σ.1 i.toNat) (-1)) (cif (mulD (σ.1 i.toNat) (-1) = σ.1 i.toNat) 1 0))
section CLASS
variable {G : GT} {μ : Mem} {M : HV} {σ : St}
theorem c_isSpace {i : Int} (hi : -2147483648 ≤ i ∧ i < 2147483648) : Ctr G mX10_isSpace [vi i] M (R1 (vi (cif (isS i) 1 0)) M) := by
  refine Ctr.of ?_
  refine E_iload_n dX10_isSpace_0 rfl ?_
  refine E_if_lt 14 dX10_isSpace_1 (fun h1 => ?_) (fun h1 => ?_)
  · -- 14
    refine E_iconst dX10_isSpace_14 ?_
    refine E_zret dX10_isSpace_15 ?_ (by first | exact Or.inl rfl | exact Or.inr rfl | omega)
    first | (rw [cif_pos (show isS i from ⟨by omega, by omega⟩)]; exact ⟨rfl, rfl⟩) | (rw [cif_neg (show ¬ isS i from fun q => by have := q.1; have := q.2; omega)]; exact ⟨rfl, rfl⟩)
  · -- 4
    refine E_iload_n dX10_isSpace_4 rfl ?_
    refine E_bipush dX10_isSpace_5 ?_
    refine E_icmp_ge 14 dX10_isSpace_7 (fun h7 => ?_) (fun h7 => ?_)
    · -- 14
      refine E_iconst dX10_isSpace_14 ?_
      refine E_zret dX10_isSpace_15 ?_ (by first | exact Or.inl rfl | exact Or.inr rfl | omega)
      first | (rw [cif_pos (show isS i from ⟨by omega, by omega⟩)]; exact ⟨rfl, rfl⟩) | (rw [cif_neg (show ¬ isS i from fun q => by have := q.1; have := q.2; omega)]; exact ⟨rfl, rfl⟩)
    · -- 10
      refine E_iconst dX10_isSpace_10 ?_
      refine E_goto 15 dX10_isSpace_11 ?_
      refine E_zret dX10_isSpace_15 ?_ (by first | exact Or.inl rfl | exact Or.inr rfl | omega)
      first | (rw [cif_pos (show isS i from ⟨by omega, by omega⟩)]; exact ⟨rfl, rfl⟩) | (rw [cif_neg (show ¬ isS i from fun q => by have := q.1; have := q.2; omega)]; exact ⟨rfl, rfl⟩)
theorem c_isOrder {i : Int} (hi : -2147483648 ≤ i ∧ i < 2147483648) : Ctr G mX10_isOrder [vi i] M (R1 (vi (cif (2 ≤ i ∧ i ≤ 12) 1 0)) M) := by
  refine Ctr.of ?_
  refine E_iload_n dX10_isOrder_0 rfl ?_
  refine E_iconst dX10_isOrder_1 ?_
  refine E_icmp_lt 15 dX10_isOrder_2 (fun h2 => ?_) (fun h2 => ?_)
  · -- 15
    refine E_iconst dX10_isOrder_15 ?_
    refine E_zret dX10_isOrder_16 ?_ (by first | exact Or.inl rfl | exact Or.inr rfl | omega)
    first | (rw [cif_pos (show 2 ≤ i ∧ i ≤ 12 from ⟨by omega, by omega⟩)]; exact ⟨rfl, rfl⟩) | (rw [cif_neg (show ¬ (2 ≤ i ∧ i ≤ 12) from fun q => by omega)]; exact ⟨rfl, rfl⟩)
  · -- 5
    refine E_iload_n dX10_isOrder_5 rfl ?_
    refine E_bipush dX10_isOrder_6 ?_
    refine E_icmp_gt 15 dX10_isOrder_8 (fun h8 => ?_) (fun h8 => ?_)
    · -- 15
      refine E_iconst dX10_isOrder_15 ?_
      refine E_zret dX10_isOrder_16 ?_ (by first | exact Or.inl rfl | exact Or.inr rfl | omega)
      first | (rw [cif_pos (show 2 ≤ i ∧ i ≤ 12 from ⟨by omega, by omega⟩)]; exact ⟨rfl, rfl⟩) | (rw [cif_neg (show ¬ (2 ≤ i ∧ i ≤ 12) from fun q => by omega)]; exact ⟨rfl, rfl⟩)
    · -- 11
      refine E_iconst dX10_isOrder_11 ?_
      refine E_goto 16 dX10_isOrder_12 ?_
      refine E_zret dX10_isOrder_16 ?_ (by first | exact Or.inl rfl | exact Or.inr rfl | omega)
      first | (rw [cif_pos (show 2 ≤ i ∧ i ≤ 12 from ⟨by omega, by omega⟩)]; exact ⟨rfl, rfl⟩) | (rw [cif_neg (show ¬ (2 ≤ i ∧ i ≤ 12) from fun q => by omega)]; exact ⟨rfl, rfl⟩)
theorem sp_at {i : Int} (hi : isS i) : [3, 6, 9, 12, 15, 18][i.toNat]? = some (3 + 3 * i.toNat) := by
  have h1 := hi.1
  have h2 := hi.2
  rcases (show i.toNat = 0 ∨ i.toNat = 1 ∨ i.toNat = 2 ∨ i.toNat = 3 ∨ i.toNat = 4 ∨ i.toNat = 5 by omega) with h | h | h | h | h | h <;> rw [h] <;> rfl
theorem isSp_sh {i : Int} (hi : isS i) : isSp (3 + 3 * i.toNat) := by
  have := isSh_1.2.2 i.toNat (by have := hi.1; have := hi.2; omega)
  exact this
theorem rep_at {i : Int} (hi : isS i) {sh : Sh} (h : RepSh μ 1 sh) : RepS μ (3 + 3 * i.toNat) (sh i.toNat) := h i.toNat (by have := hi.1; have := hi.2; omega)
theorem ok_at {i : Int} (hi : isS i) {sh : Sh} (h : shOk sh) : spOk (sh i.toNat) := h i.toNat (by have := hi.1; have := hi.2; omega)
theorem at_lt {i : Int} (hi : isS i) : 3 + 3 * i.toNat + 3 ≤ 21 := by have := hi.1; have := hi.2; omega
theorem c_settle {i a : Int} {d : Sp} (hi : isS i) (hC : RepC μ σ) (hok : stOk σ) (hd : RepD μ 150 d) (k1 : -2147483648 < d.2.2.1 ∧ d.2.2.1 < 2147483648) (k2 : 0 ≤ d.2.1 ∧ d.2.1 < 1000) : Ctr G mX10_settle [.ref 0, vi i, vi a] (Hp μ) (CQ μ (sSettle σ i d a)) := by
  refine Ctr.of ?_
  have hq := isSp_sh hi
  have hlt := at_lt hi
  have hfit := c_fits (G := G) isSp_150 hd k1 k2
  obtain ⟨hC1, hC2, hC3, hC4, hC5⟩ := hC
  by_cases hf : fitD d
  · rw [show sSettle σ i d a = (a, setSh σ.1 i.toNat d, (σ.1 :: σ.2.1).take 6, σ.2.2) from cif_pos hf]
    rw [if_pos (show d.2.2.2.length ≤ 6 ∧ d.2.1 ≤ 4 ∧ -999 ≤ d.2.2.1 ∧ d.2.2.1 ≤ 999 from hf)] at hfit
    have hi1 := hi.1
    have hi2 := hi.2
    refine E_aload_n dX10_settle_0 rfl ?_
    refine GX10_48 sk_0 dX10_settle_1 ?_
    refine E_callVR dX10_settle_4 lkX10_263 (Hp_get sk_150) (hfit) ?_
    refine E_if_ne 13 dX10_settle_7 (fun h7 => ?_) (fun h7 => ?_)
    · -- 13
      refine E_aload_n dX10_settle_13 rfl ?_
      refine GX10_19 sk_0 dX10_settle_14 ?_
      refine E_aload_n dX10_settle_17 rfl ?_
      refine GX10_10 sk_0 dX10_settle_18 ?_
      refine E_callVV dX10_settle_21 lkX10_267 (Hp_get sk_21) (c_save hC1 hok.1 hC2) ?_
      rintro μ1 ⟨a1, a2⟩
      have b1 : RepS μ1 150 d := (hd.s hf.1).off a2 (by omega)
      refine E_aload_n dX10_settle_24 rfl ?_
      refine GX10_10 sk_0 dX10_settle_25 ?_
      refine GX10_104 sk_1 dX10_settle_28 ?_
      refine E_iload_n dX10_settle_31 rfl ?_
      refine H_aald4 sk_2 dX10_settle_32 (sp_at hi) ?_
      refine E_aload_n dX10_settle_33 rfl ?_
      refine GX10_48 sk_0 dX10_settle_34 ?_
      refine E_callVV dX10_settle_37 lkX10_129 (Hp_get hq.1) (c_copy hq isSp_150 (by omega) b1 hf.1) ?_
      rintro μ2 ⟨d1, d2⟩
      refine E_iload_n dX10_settle_40 rfl ?_
      refine E_iret dX10_settle_41 ?_
      refine ⟨rfl, _, rfl, ⟨fun k hk => ?_, a1.off d2 (by omega), (hC3.off a2 (by omega)).off d2 (by omega), (hC4.off a2 (by omega)).off d2 (by omega), (hC5.off a2 (by omega)).off d2 (by omega)⟩, fun q hq => by rw [d2 q (by omega), a2 q (by omega)]⟩
      simp only [setSh]
      split
      · next e => subst e; exact d1
      · exact (((hC1 k hk).off a2 (by omega)).off d2 (by omega))
    · -- 10
      exact absurd h7 (by decide)
  · rw [show sSettle σ i d a = (-3, σ) from cif_neg hf]
    rw [if_neg (show ¬ (d.2.2.2.length ≤ 6 ∧ d.2.1 ≤ 4 ∧ -999 ≤ d.2.2.1 ∧ d.2.2.1 ≤ 999) from hf)] at hfit
    refine E_aload_n dX10_settle_0 rfl ?_
    refine GX10_48 sk_0 dX10_settle_1 ?_
    refine E_callVR dX10_settle_4 lkX10_263 (Hp_get sk_150) (hfit) ?_
    refine E_if_ne 13 dX10_settle_7 (fun h7 => ?_) (fun h7 => ?_)
    · -- 13
      exact absurd rfl h7
    · -- 10
      refine E_bipush dX10_settle_10 ?_
      refine E_iret dX10_settle_12 ?_
      exact ⟨rfl, _, rfl, ⟨hC1, hC2, hC3, hC4, hC5⟩, fun _ _ => rfl⟩
theorem c_type {c : Int} (hc : -2147483648 ≤ c ∧ c < 2147483648) (hC : RepC μ σ) (hok : stOk σ) : Ctr G mX10_type [.ref 0, vi c] (Hp μ) (CQ μ (sType σ c)) := by
  refine Ctr.of ?_
  have k4 := hC.2.2.2.1
  have k5 := k4.1
  have k6 := k4.2.1
  by_cases q1 : c < 0 ∨ 255 < c
  · rw [show sType σ c = (-1, σ) from cif_pos q1]
    refine E_iload_n dX10_type_0 rfl ?_
    refine E_if_lt 11 dX10_type_1 (fun h1 => ?_) (fun h1 => ?_)
    · -- 11
      refine E_iconst dX10_type_11 ?_
      refine E_iret dX10_type_12 ?_
      exact ⟨rfl, _, rfl, hC, fun _ _ => rfl⟩
    · -- 4
      refine E_iload_n dX10_type_4 rfl ?_
      refine E_sipush dX10_type_5 ?_
      refine E_icmp_le 13 dX10_type_8 (fun h8 => ?_) (fun h8 => ?_)
      · -- 13
        exfalso; omega
      · -- 11
        refine E_iconst dX10_type_11 ?_
        refine E_iret dX10_type_12 ?_
        exact ⟨rfl, _, rfl, hC, fun _ _ => rfl⟩
  · have e1 : sType σ c = cif (100 ≤ σ.2.2.2.1.length) (-3, σ) ((σ.2.2.2.1.length : Int) + 1, σ.1, σ.2.1, σ.2.2.1, σ.2.2.2.1 ++ [c], σ.2.2.2.2) := cif_neg q1
    rw [e1]
    by_cases q2 : 100 ≤ σ.2.2.2.1.length
    · rw [cif_pos q2]
      refine E_iload_n dX10_type_0 rfl ?_
      refine E_if_lt 11 dX10_type_1 (fun h1 => ?_) (fun h1 => ?_)
      · -- 11
        exfalso; omega
      · -- 4
        refine E_iload_n dX10_type_4 rfl ?_
        refine E_sipush dX10_type_5 ?_
        refine E_icmp_le 13 dX10_type_8 (fun h8 => ?_) (fun h8 => ?_)
        · -- 13
          refine E_aload_n dX10_type_13 rfl ?_
          refine GX10_34 sk_0 dX10_type_14 ?_
          refine GX10_84 sk_145 dX10_type_17 ?_
          refine E_bipush dX10_type_20 ?_
          refine E_icmp_lt 28 dX10_type_22 (fun h22 => ?_) (fun h22 => ?_)
          · -- 28
            exfalso; omega
          · -- 25
            refine E_bipush dX10_type_25 ?_
            refine E_iret dX10_type_27 ?_
            exact ⟨rfl, _, rfl, hC, fun _ _ => rfl⟩
        · -- 11
          exfalso; omega
    · rw [cif_neg q2]
      refine E_iload_n dX10_type_0 rfl ?_
      refine E_if_lt 11 dX10_type_1 (fun h1 => ?_) (fun h1 => ?_)
      · -- 11
        exfalso; omega
      · -- 4
        refine E_iload_n dX10_type_4 rfl ?_
        refine E_sipush dX10_type_5 ?_
        refine E_icmp_le 13 dX10_type_8 (fun h8 => ?_) (fun h8 => ?_)
        · -- 13
          refine E_aload_n dX10_type_13 rfl ?_
          refine GX10_34 sk_0 dX10_type_14 ?_
          refine GX10_84 sk_145 dX10_type_17 ?_
          refine E_bipush dX10_type_20 ?_
          refine E_icmp_lt 28 dX10_type_22 (fun h22 => ?_) (fun h22 => ?_)
          · -- 28
            refine E_aload_n dX10_type_28 rfl ?_
            refine GX10_34 sk_0 dX10_type_29 ?_
            refine E_iload_n dX10_type_32 rfl ?_
            refine E_callVV dX10_type_33 lkX10_88 (Hp_get sk_145) (c_append k4 (by omega)) ?_
            rintro μ1 ⟨a1, a2⟩
            refine E_aload_n dX10_type_36 rfl ?_
            refine GX10_34 sk_0 dX10_type_37 ?_
            refine GX10_84 sk_145 dX10_type_40 ?_
            rw [a1.1, show ((σ.2.2.2.1 ++ [c]).length : Int) = (σ.2.2.2.1.length : Int) + 1 by simp]
            refine E_iret dX10_type_43 ?_
            exact ⟨rfl, _, rfl, ⟨hC.1.off a2 (by omega), hC.2.1.off a2 (by omega), hC.2.2.1.off a2 (by omega), a1, hC.2.2.2.2.off a2 (by omega)⟩, fun q hq => a2 q (by omega)⟩
          · -- 25
            exfalso; omega
        · -- 11
          exfalso; omega
theorem c_clear (hC : RepC μ σ) : Ctr G mX10_clear [.ref 0] (Hp μ) (CQ μ (sClear σ)) := by
  refine Ctr.of ?_
  have k4 := hC.2.2.2.1
  have ho : Off 145 1 μ (up μ 145 1 0) := Off.rf.up (by omega) (by omega)
  refine E_aload_n dX10_clear_0 rfl ?_
  refine GX10_34 sk_0 dX10_clear_1 ?_
  refine GX10_84 sk_145 dX10_clear_4 ?_
  rw [k4.1]
  refine E_istore_n dX10_clear_7 ?_
  refine E_aload_n dX10_clear_8 rfl ?_
  refine GX10_34 sk_0 dX10_clear_9 ?_
  refine E_iconst dX10_clear_12 ?_
  refine PX10_84 sk_145 dX10_clear_13 ?_
  refine E_iload_n dX10_clear_16 rfl ?_
  refine E_iret dX10_clear_17 ?_
  exact ⟨rfl, _, rfl, ⟨hC.1.off ho (by omega), hC.2.1.off ho (by omega), hC.2.2.1.off ho (by omega), ⟨by rw [up_r, if_pos rfl]; rfl, by simp [sClear], RepV.nil⟩, hC.2.2.2.2.off ho (by omega)⟩, fun q hq => ho q (by omega)⟩
end CLASS
