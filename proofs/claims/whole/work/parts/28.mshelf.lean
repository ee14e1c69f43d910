/-! FibredSpacesModel: spaces in rows of sixteen numbers -/
def RepN (μ : Mem) (r : Nat) (o : Int) (s : Sp) : Prop := μ r o = s.1 ∧ μ r (o + 1) = s.2.1 ∧ μ r (o + 2) = s.2.2.1 ∧ μ r (o + 3) = s.2.2.2.length ∧ ∀ (k : Nat) (x : Fib), s.2.2.2[k]? = some x → μ r (o + 4 + 2 * k) = x.1 ∧ μ r (o + 4 + 2 * k + 1) = x.2
def RepW (μ : Mem) (r : Nat) (o : Int) (sh : Sh) : Prop := ∀ i : Nat, i < 6 → RepN μ r (o + 16 * i) (sh i)
theorem RepN.kept {μ μ' : Mem} {r : Nat} {o : Int} {s : Sp} (h : RepN μ r o s) (hk : μ' r = μ r) : RepN μ' r o s := by
  unfold RepN; rw [hk]; exact h
theorem RepW.kept {μ μ' : Mem} {r : Nat} {o : Int} {sh : Sh} (h : RepW μ r o sh) (hk : μ' r = μ r) : RepW μ' r o sh := fun i hi => (h i hi).kept hk
theorem RepN.move {μ μ' : Mem} {r r' : Nat} {o o' : Int} {s : Sp} (h : RepN μ r o s) (h6 : s.2.2.2.length ≤ 6) (hk : ∀ k : Int, 0 ≤ k → k < 16 → μ' r' (o' + k) = μ r (o + k)) : RepN μ' r' o' s := by
  obtain ⟨h1, h2, h3, h4, h5⟩ := h
  refine ⟨?_, ?_, ?_, ?_, fun k x hx => ?_⟩
  · have := hk 0 (by omega) (by omega)
    rw [Int.add_zero, Int.add_zero] at this
    rw [this]; exact h1
  · rw [hk 1 (by omega) (by omega)]; exact h2
  · rw [hk 2 (by omega) (by omega)]; exact h3
  · rw [hk 3 (by omega) (by omega)]; exact h4
  · have hkl : k < s.2.2.2.length := (List.getElem?_eq_some_iff.mp hx).1
    have h7 := h5 k x hx
    have e1 := hk (4 + 2 * k) (by omega) (by omega)
    have e2 := hk (4 + 2 * k + 1) (by omega) (by omega)
    rw [show o' + (4 + 2 * (k : Int)) = o' + 4 + 2 * k by omega, show o + (4 + 2 * (k : Int)) = o + 4 + 2 * k by omega] at e1
    rw [show o' + (4 + 2 * (k : Int) + 1) = o' + 4 + 2 * k + 1 by omega, show o + (4 + 2 * (k : Int) + 1) = o + 4 + 2 * k + 1 by omega] at e2
    rw [e1, e2]; exact h7
theorem RepW.move {μ μ' : Mem} {r r' : Nat} {o o' : Int} {sh : Sh} (h : RepW μ r o sh) (hok : shOk sh) (hk : ∀ k : Int, 0 ≤ k → k < 96 → μ' r' (o' + k) = μ r (o + k)) : RepW μ' r' o' sh := fun i hi => (h i hi).move (hok i hi).2.2.2.2.2.1 (fun k k1 k2 => by
  have := hk (16 * i + k) (by omega) (by omega)
  rw [show o' + (16 * (i : Int) + k) = o' + 16 * i + k by omega, show o + (16 * (i : Int) + k) = o + 16 * i + k by omega] at this
  exact this)
def RepP (μ : Mem) (past : List Sh) : Prop := μ 203 2 = past.length ∧ ∀ (j : Nat) (p : Sh), past[j]? = some p → RepW μ 205 (96 * ((past.length : Int) - 1 - j)) p
def RepJ (μ : Mem) (im : Nat → Option Sh) : Prop := ∀ k : Nat, k < 2 → (im k = none → μ 207 k = 0) ∧ ∀ g, im k = some g → μ 207 k = 1 ∧ RepW μ 206 (96 * k) g
def RepX (μ : Mem) (t : List Int) : Prop := μ 203 12 = t.length ∧ t.length ≤ 100 ∧ RepV μ 210 t
def RepY (μ : Mem) (l : List (Int × Int)) : Prop := μ 203 28 = l.length ∧ l.length ≤ 6 ∧ RepV μ 216 (l.map Prod.fst) ∧ RepV μ 217 (l.map Prod.snd)
/-- the model's memory -/
def RepM (μ : Mem) (σ : St) : Prop := RepW μ 204 0 σ.1 ∧ RepP μ σ.2.1 ∧ RepJ μ σ.2.2.1 ∧ RepX μ σ.2.2.2.1 ∧ RepY μ σ.2.2.2.2 ∧ ∀ k : Int, 0 ≤ k → k < 12 → μ 215 k = 0
theorem RepP.kept {μ μ' : Mem} {l : List Sh} (h : RepP μ l) (h1 : μ' 203 2 = μ 203 2) (h2 : μ' 205 = μ 205) : RepP μ' l := ⟨h1.trans h.1, fun j p hp => (h.2 j p hp).kept h2⟩
theorem RepJ.kept {μ μ' : Mem} {im : Nat → Option Sh} (h : RepJ μ im) (h1 : μ' 206 = μ 206) (h2 : μ' 207 = μ 207) : RepJ μ' im := fun k hk => by
  obtain ⟨a, b⟩ := h k hk
  rw [h2]
  exact ⟨a, fun g hg => ⟨(b g hg).1, (b g hg).2.kept h1⟩⟩
theorem RepX.kept {μ μ' : Mem} {t : List Int} (h : RepX μ t) (h1 : μ' 203 12 = μ 203 12) (h2 : μ' 210 = μ 210) : RepX μ' t := ⟨h1.trans h.1, h.2.1, h.2.2.kept h2⟩
theorem RepY.kept {μ μ' : Mem} {l : List (Int × Int)} (h : RepY μ l) (h1 : μ' 203 28 = μ 203 28) (h2 : μ' 216 = μ 216) (h3 : μ' 217 = μ 217) : RepY μ' l := ⟨h1.trans h.1, h.2.1, h.2.2.1.kept h2, h.2.2.2.kept h3⟩
/-- memory that the model's state does not lie in may change -/
def OffW (μ μ' : Mem) : Prop := (∀ q : Nat, q ≠ 203 → q ≠ 208 → q ≠ 209 → q ≠ 211 → q ≠ 212 → q ≠ 213 → q ≠ 214 → q ≠ 218 → μ' q = μ q) ∧ ∀ j : Int, (j = 2 ∨ j = 12 ∨ j = 28) → μ' 203 j = μ 203 j
theorem OffB.w {μ μ' : Mem} (h : OffB μ μ') : OffW μ μ' := ⟨fun q a b c _ _ _ _ _ => h.1 q a b c, fun j hj => h.2 j (by omega)⟩
theorem OffW.tr {μ μ1 μ2 : Mem} (h : OffW μ μ1) (h' : OffW μ1 μ2) : OffW μ μ2 := ⟨fun q a b c d e f g k => by rw [h'.1 q a b c d e f g k, h.1 q a b c d e f g k], fun j hj => by rw [h'.2 j hj, h.2 j hj]⟩
theorem OffW.rf {μ : Mem} : OffW μ μ := ⟨fun _ _ _ _ _ _ _ _ _ => rfl, fun _ _ => rfl⟩
theorem RepM.off {μ μ' : Mem} {σ : St} (h : RepM μ σ) (ho : OffW μ μ') : RepM μ' σ := by
  have e : ∀ q : Nat, q = 204 ∨ q = 205 ∨ q = 206 ∨ q = 207 ∨ q = 210 ∨ q = 215 ∨ q = 216 ∨ q = 217 → μ' q = μ q := fun q hq => ho.1 q (by omega) (by omega) (by omega) (by omega) (by omega) (by omega) (by omega) (by omega)
  obtain ⟨h1, h2, h3, h4, h5, h6⟩ := h
  exact ⟨h1.kept (e 204 (by omega)), h2.kept (ho.2 2 (by omega)) (e 205 (by omega)), h3.kept (e 206 (by omega)) (e 207 (by omega)), h4.kept (ho.2 12 (by omega)) (e 210 (by omega)), h5.kept (ho.2 28 (by omega)) (e 216 (by omega)) (e 217 (by omega)), by rw [e 215 (by omega)]; exact h6⟩
/-- the answer of a call of the model -/
def NQ (μ : Mem) (R : Int × St) : QT := fun v M' => v = some (vi R.1) ∧ ∃ μ', M' = Hp μ' ∧ RepM μ' R.2 ∧ ∀ q : Nat, q < 203 → μ' q = μ q
def NL (μ : Mem) (R : Int × St) : QT := fun v M' => v = some (vl R.1) ∧ ∃ μ', M' = Hp μ' ∧ RepM μ' R.2 ∧ ∀ q : Nat, q < 203 → μ' q = μ q
section MSHELF
variable {G : GT} {μ : Mem} {M : HV} {σ : St}
theorem rn_at {i : Int} {sh : Sh} (hi : isS i) (h : RepW μ 204 0 sh) : RepN μ 204 (16 * i) (sh i.toNat) := by
  have h1 := hi.1
  have h2 := hi.2
  have := h i.toNat (by omega)
  rw [show (0 : Int) + 16 * (i.toNat : Int) = 16 * i by omega] at this
  exact this
theorem m_a {i : Int} {k : Nat} {s : Sp} {x : Fib} (hi : isS i) (hs : RepN μ 204 (16 * i) s) (hk : k < 6) (hx : s.2.2.2[k]? = some x) : Ctr G mX11_a [.ref 203, vi i, vi (k : Int)] (Hp μ) (R1 (vi x.1) (Hp μ)) := by
  refine Ctr.of ?_
  have h1 := hi.1
  have h2 := hi.2
  refine E_aload_n dX11_a_0 rfl ?_
  refine GX11_7 sk_203 dX11_a_1 ?_
  refine E_bipush dX11_a_4 ?_
  refine E_iload_n dX11_a_6 rfl ?_
  refine E_imul dX11_a_7 ?_
  refine E_iconst dX11_a_8 ?_
  refine E_iadd dX11_a_9 ?_
  refine E_iconst dX11_a_10 ?_
  refine E_iload_n dX11_a_11 rfl ?_
  refine E_imul dX11_a_12 ?_
  refine E_iadd dX11_a_13 ?_
  refine H_iald sk_204 dX11_a_14 ?_
  rw [(hs.2.2.2.2 k x hx).1]
  refine E_iret dX11_a_15 ?_
  exact ⟨rfl, rfl⟩
theorem m_b {i : Int} {k : Nat} {s : Sp} {x : Fib} (hi : isS i) (hs : RepN μ 204 (16 * i) s) (hk : k < 6) (hx : s.2.2.2[k]? = some x) : Ctr G mX11_b [.ref 203, vi i, vi (k : Int)] (Hp μ) (R1 (vi x.2) (Hp μ)) := by
  refine Ctr.of ?_
  have h1 := hi.1
  have h2 := hi.2
  refine E_aload_n dX11_b_0 rfl ?_
  refine GX11_7 sk_203 dX11_b_1 ?_
  refine E_bipush dX11_b_4 ?_
  refine E_iload_n dX11_b_6 rfl ?_
  refine E_imul dX11_b_7 ?_
  refine E_iconst dX11_b_8 ?_
  refine E_iadd dX11_b_9 ?_
  refine E_iconst dX11_b_10 ?_
  refine E_iload_n dX11_b_11 rfl ?_
  refine E_imul dX11_b_12 ?_
  refine E_iadd dX11_b_13 ?_
  refine E_iconst dX11_b_14 ?_
  refine E_iadd dX11_b_15 ?_
  refine H_iald sk_204 dX11_b_16 ?_
  rw [(hs.2.2.2.2 k x hx).2]
  refine E_iret dX11_b_17 ?_
  exact ⟨rfl, rfl⟩
theorem m_fibres {i : Int} {s : Sp} (hi : isS i) (hs : RepN μ 204 (16 * i) s) : Ctr G mX11_fibres [.ref 203, vi i] (Hp μ) (R1 (vi (s.2.2.2.length : Int)) (Hp μ)) := by
  refine Ctr.of ?_
  have h1 := hi.1
  have h2 := hi.2
  refine E_aload_n dX11_fibres_0 rfl ?_
  refine GX11_7 sk_203 dX11_fibres_1 ?_
  refine E_bipush dX11_fibres_4 ?_
  refine E_iload_n dX11_fibres_6 rfl ?_
  refine E_imul dX11_fibres_7 ?_
  refine E_iconst dX11_fibres_8 ?_
  refine E_iadd dX11_fibres_9 ?_
  refine H_iald sk_204 dX11_fibres_10 ?_
  rw [hs.2.2.2.1]
  refine E_iret dX11_fibres_11 ?_
  exact ⟨rfl, rfl⟩
theorem OffB.now {μ' : Mem} (h : OffB μ μ') : μ' 204 = μ 204 := h.1 204 (by decide) (by decide) (by decide)
theorem putm_len {d : Sp} {a b : Int} : (put d a b).2.2.2.length ≤ d.2.2.2.length + 1 := by
  simp only [put]; split
  · rw [ins_len]; omega
  · omega
theorem mt_loop {i m : Int} {s : Sp} (hi : isS i) (hm : -100 ≤ m ∧ m ≤ 100) (hs : RepN μ 204 (16 * i) s) (hok : spOk s) : ∀ (q p : List Fib) (d : Sp) (μ' : Mem), p ++ q = s.2.2.2 → RepB μ' d → (∀ y ∈ d.2.2.2, smF y) → d.2.2.2.length ≤ p.length → OffB μ μ' →
    E G mX11_makeTimes (Zq G mX11_makeTimes (V0 (fun μ' => RepB μ' (putAll d q m) ∧ OffB μ μ'))) 0 0 41 [.ref 203, vi i, vi m, vi (p.length : Int)] [] (Hp μ') := by
  have hb := hok.2.2.2.2.2.1
  have j1 := hi.1
  have j2 := hi.2
  intro q
  induction q with
  | nil =>
    intro p d μ' h1 h2 h3 hl h4
    have hs' := hs.kept h4.now
    have hl : p.length = s.2.2.2.length := by rw [← h1]; simp
    refine E_iload_n dX11_makeTimes_41 rfl ?_
    refine E_aload_n dX11_makeTimes_42 rfl ?_
    refine E_iload_n dX11_makeTimes_43 rfl ?_
    refine E_callVR dX11_makeTimes_44 lkX11_100 (Hp_get sk_203) (m_fibres hi hs') ?_
    refine E_icmp_ge 74 dX11_makeTimes_47 (fun h47 => ?_) (fun h47 => ?_)
    · -- 74
      refine E_vret dX11_makeTimes_74 ?_
      exact ⟨rfl, _, rfl, h2, h4⟩
    · -- 50
      exfalso; omega
  | cons x q ih =>
    intro p d μ' h1 h2 h3 hl h4
    have hs' := hs.kept h4.now
    have hl : p.length + 1 + q.length = s.2.2.2.length := by rw [← h1]; simp; omega
    have hx := hok.2.2.2.2.2.2 x (by rw [← h1]; simp)
    have hat : s.2.2.2[p.length]? = some x := by rw [← h1]; simp
    obtain ⟨x1, x2, x3, x4, -⟩ := id hx
    have hxm : -3000 ≤ x.2 * m ∧ x.2 * m ≤ 3000 := by
      have e1 : x.2 * m ≤ x.2 * 100 := Int.mul_le_mul_of_nonneg_left (by omega) (by omega)
      have e2 : x.2 * (-100) ≤ x.2 * m := Int.mul_le_mul_of_nonneg_left (by omega) (by omega)
      omega
    refine E_iload_n dX11_makeTimes_41 rfl ?_
    refine E_aload_n dX11_makeTimes_42 rfl ?_
    refine E_iload_n dX11_makeTimes_43 rfl ?_
    refine E_callVR dX11_makeTimes_44 lkX11_100 (Hp_get sk_203) (m_fibres hi hs') ?_
    refine E_icmp_ge 74 dX11_makeTimes_47 (fun h47 => ?_) (fun h47 => ?_)
    · -- 74
      exfalso; omega
    · -- 50
      refine E_aload_n dX11_makeTimes_50 rfl ?_
      refine E_aload_n dX11_makeTimes_51 rfl ?_
      refine E_iload_n dX11_makeTimes_52 rfl ?_
      refine E_iload_n dX11_makeTimes_53 rfl ?_
      refine E_callVR dX11_makeTimes_54 lkX11_90 (Hp_get sk_203) (m_a hi hs' (by omega) hat) ?_
      refine E_iload_n dX11_makeTimes_57 rfl ?_
      refine E_aload_n dX11_makeTimes_58 rfl ?_
      refine E_iload_n dX11_makeTimes_59 rfl ?_
      refine E_iload_n dX11_makeTimes_60 rfl ?_
      refine E_callVR dX11_makeTimes_61 lkX11_93 (Hp_get sk_203) (m_b hi hs' (by omega) hat) ?_
      refine E_imul dX11_makeTimes_64 ?_
      rw [Int.mul_comm m x.2]
      refine E_callVV dX11_makeTimes_65 lkX11_104 (Hp_get sk_203) (m_add (a := x.1) (b := x.2 * m) h2 (by omega) (by omega) h3 (by omega)) ?_
      rintro μ2 ⟨g1, g2⟩
      refine E_iinc dX11_makeTimes_68 rfl ?_
      refine E_goto 41 dX11_makeTimes_71 ?_
      have := ih (p ++ [x]) _ μ2 (by rw [← h1]; simp) g1 (smF_put (by omega) h3) (by have := putm_len (d := d) (a := x.1) (b := x.2 * m); simp; omega) (h4.tr g2)
      rw [show ((p ++ [x]).length : Int) = (p.length : Int) + 1 by simp] at this
      exact this
theorem m_makeTimes {i m : Int} {s : Sp} (hi : isS i) (hm : -100 ≤ m ∧ m ≤ 100) (hs : RepN μ 204 (16 * i) s) (hok : spOk s) : Ctr G mX11_makeTimes [.ref 203, vi i, vi m] (Hp μ) (V0 (fun μ' => RepB μ' (mulD s m) ∧ OffB μ μ')) := by
  refine Ctr.of ?_
  have j1 := hi.1
  have j2 := hi.2
  refine E_aload_n dX11_makeTimes_0 rfl ?_
  refine E_aload_n dX11_makeTimes_1 rfl ?_
  refine GX11_7 sk_203 dX11_makeTimes_2 ?_
  refine E_bipush dX11_makeTimes_5 ?_
  refine E_iload_n dX11_makeTimes_7 rfl ?_
  refine E_imul dX11_makeTimes_8 ?_
  refine E_iconst dX11_makeTimes_9 ?_
  refine E_iadd dX11_makeTimes_10 ?_
  refine H_iald sk_204 dX11_makeTimes_11 ?_
  rw [Int.add_zero, hs.1]
  refine E_aload_n dX11_makeTimes_12 rfl ?_
  refine GX11_7 sk_203 dX11_makeTimes_13 ?_
  refine E_bipush dX11_makeTimes_16 ?_
  refine E_iload_n dX11_makeTimes_18 rfl ?_
  refine E_imul dX11_makeTimes_19 ?_
  refine E_iconst dX11_makeTimes_20 ?_
  refine E_iadd dX11_makeTimes_21 ?_
  refine H_iald sk_204 dX11_makeTimes_22 ?_
  rw [hs.2.1]
  refine E_iload_n dX11_makeTimes_23 rfl ?_
  refine E_aload_n dX11_makeTimes_24 rfl ?_
  refine GX11_7 sk_203 dX11_makeTimes_25 ?_
  refine E_bipush dX11_makeTimes_28 ?_
  refine E_iload_n dX11_makeTimes_30 rfl ?_
  refine E_imul dX11_makeTimes_31 ?_
  refine E_iconst dX11_makeTimes_32 ?_
  refine E_iadd dX11_makeTimes_33 ?_
  refine H_iald sk_204 dX11_makeTimes_34 ?_
  rw [hs.2.2.1]
  refine E_imul dX11_makeTimes_35 ?_
  rw [Int.mul_comm m s.2.2.1]
  refine E_callVV dX11_makeTimes_36 lkX11_96 (Hp_get sk_203) (m_begin) ?_
  rintro μ1 ⟨a1, a2⟩
  refine E_iconst dX11_makeTimes_39 ?_
  refine E_istore_n dX11_makeTimes_40 ?_
  exact mt_loop hi hm hs hok s.2.2.2 [] _ μ1 rfl a1 (fun y hy => by simp at hy) (by simp) a2
theorem sp_ext {d s : Sp} (h1 : d.1 = s.1) (h2 : d.2.1 = s.2.1) (h3 : d.2.2.1 = s.2.2.1) (h4 : d.2.2.2 = s.2.2.2) : d = s := Prod.ext h1 (Prod.ext h2 (Prod.ext h3 h4))
theorem made_0 {i : Int} {d s : Sp} (hne : ¬ d = s) (hd : RepB μ d) (hl : d.2.2.2.length ≤ 20) (k : Nat) (hk : k ≤ 20) (c2 : Int) :
    E G mX11_isMade (Zq G mX11_isMade (R1 (vi (cif (d = s) 1 0)) (Hp μ))) 0 0 74 [.ref 203, vi i, vi c2, vi 0, vi (k : Int)] [] (Hp μ) := by
  have h4 := hd.2.2.2.1
  rw [cif_neg hne]
  refine E_iload dX11_isMade_74 rfl ?_
  refine E_aload_n dX11_isMade_76 rfl ?_
  refine GX11_76 sk_203 dX11_isMade_77 ?_
  refine E_icmp_ge 133 dX11_isMade_80 (fun h80 => ?_) (fun h80 => ?_)
  · -- 133
    refine E_iload_n dX11_isMade_133 rfl ?_
    refine E_zret dX11_isMade_134 ?_ (by first | exact Or.inl rfl | exact Or.inr rfl | omega)
    exact ⟨rfl, rfl⟩
  · -- 83
    refine E_iload_n dX11_isMade_83 rfl ?_
    refine E_if_eq 133 dX11_isMade_84 (fun h84 => ?_) (fun h84 => ?_)
    · -- 133
      refine E_iload_n dX11_isMade_133 rfl ?_
      refine E_zret dX11_isMade_134 ?_ (by first | exact Or.inl rfl | exact Or.inr rfl | omega)
      exact ⟨rfl, rfl⟩
    · -- 87
      exact absurd rfl h84
theorem made_1 {i : Int} {d s : Sp} (hi : isS i) (hd : RepB μ d) (hs : RepN μ 204 (16 * i) s) (hl : d.2.2.2.length ≤ 6) (hdm : ∀ y ∈ d.2.2.2, smF y) (hsm : ∀ y ∈ s.2.2.2, smF y) (e1 : d.1 = s.1) (e2 : d.2.1 = s.2.1) (e3 : d.2.2.1 = s.2.2.1) (c2 : Int) : ∀ (q q2 p : List Fib), p ++ q = d.2.2.2 → p ++ q2 = s.2.2.2 → q.length = q2.length →
    E G mX11_isMade (Zq G mX11_isMade (R1 (vi (cif (d = s) 1 0)) (Hp μ))) 0 0 74 [.ref 203, vi i, vi c2, vi 1, vi (p.length : Int)] [] (Hp μ) := by
  have h4 := hd.2.2.2.1
  intro q
  induction q with
  | nil =>
    intro q2 p p1 p2 p3
    obtain rfl : q2 = [] := List.length_eq_zero_iff.mp p3.symm
    have hp : p.length = d.2.2.2.length := by rw [← p1]; simp
    rw [cif_pos (sp_ext e1 e2 e3 (by rw [← p1, ← p2]))]
    refine E_iload dX11_isMade_74 rfl ?_
    refine E_aload_n dX11_isMade_76 rfl ?_
    refine GX11_76 sk_203 dX11_isMade_77 ?_
    refine E_icmp_ge 133 dX11_isMade_80 (fun h80 => ?_) (fun h80 => ?_)
    · -- 133
      refine E_iload_n dX11_isMade_133 rfl ?_
      refine E_zret dX11_isMade_134 ?_ (by first | exact Or.inl rfl | exact Or.inr rfl | omega)
      exact ⟨rfl, rfl⟩
    · -- 83
      exfalso; omega
  | cons x q ih =>
    intro q2 p p1 p2 p3
    cases q2 with
    | nil => simp at p3
    | cons y q2 =>
      have hp : p.length + 1 + q.length = d.2.2.2.length := by rw [← p1]; simp; omega
      have d1 := hd.2.2.2.2 p.length x (by rw [← p1]; simp)
      have s1 : s.2.2.2[p.length]? = some y := by rw [← p2]; simp
      obtain ⟨x1, x2, x3, x4⟩ := hdm x (by rw [← p1]; simp)
      obtain ⟨y1, y2, y3, y4⟩ := hsm y (by rw [← p2]; simp)
      have hne : ¬ y = x → ¬ d = s := fun h e => h (by
        have t1 : d.2.2.2[p.length]? = s.2.2.2[p.length]? := by rw [e]
        rw [s1, ← p1] at t1
        simp at t1
        exact t1.symm)
      have no := fun (h : ¬ y = x) => made_0 (G := G) (i := i) (hne h) hd (by omega) (p.length + 1) (by omega) c2
      rw [show ((p.length + 1 : Nat) : Int) = (p.length : Int) + 1 by omega] at no
      have yes := fun (h : y = x) => ih q2 (p ++ [x]) (by rw [← p1]; simp) (by rw [← p2, h]; simp) (by simpa using p3)
      rw [show ((p ++ [x]).length : Int) = (p.length : Int) + 1 by simp] at yes
      refine E_iload dX11_isMade_74 rfl ?_
      refine E_aload_n dX11_isMade_76 rfl ?_
      refine GX11_76 sk_203 dX11_isMade_77 ?_
      refine E_icmp_ge 133 dX11_isMade_80 (fun h80 => ?_) (fun h80 => ?_)
      · -- 133
        first | exact absurd h84 (by decide) | (exfalso; omega)
      · -- 83
        refine E_iload_n dX11_isMade_83 rfl ?_
        refine E_if_eq 133 dX11_isMade_84 (fun h84 => ?_) (fun h84 => ?_)
        · -- 133
          first | exact absurd h84 (by decide) | (exfalso; omega)
        · -- 87
          refine E_aload_n dX11_isMade_87 rfl ?_
          refine E_iload_n dX11_isMade_88 rfl ?_
          refine E_iload dX11_isMade_89 rfl ?_
          refine E_callVR dX11_isMade_91 lkX11_90 (Hp_get sk_203) (m_a hi hs (by omega) s1) ?_
          refine E_aload_n dX11_isMade_94 rfl ?_
          refine GX11_23 sk_203 dX11_isMade_95 ?_
          refine E_iload dX11_isMade_98 rfl ?_
          refine H_iald sk_208 dX11_isMade_100 ?_
          rw [d1.1]
          refine E_icmp_ne 125 dX11_isMade_101 (fun h101 => ?_) (fun h101 => ?_)
          · -- 125
            refine E_iconst dX11_isMade_125 (E_istore_n dX11_isMade_126 (E_iinc dX11_isMade_127 rfl (E_goto 74 dX11_isMade_130 (no (fun e => ?_)))))
            subst e
            first | exact h101 rfl | exact h118 rfl
          · -- 104
            refine E_aload_n dX11_isMade_104 rfl ?_
            refine E_iload_n dX11_isMade_105 rfl ?_
            refine E_iload dX11_isMade_106 rfl ?_
            refine E_callVR dX11_isMade_108 lkX11_93 (Hp_get sk_203) (m_b hi hs (by omega) s1) ?_
            refine E_aload_n dX11_isMade_111 rfl ?_
            refine GX11_26 sk_203 dX11_isMade_112 ?_
            refine E_iload dX11_isMade_115 rfl ?_
            refine H_iald sk_209 dX11_isMade_117 ?_
            rw [d1.2]
            refine E_icmp_ne 125 dX11_isMade_118 (fun h118 => ?_) (fun h118 => ?_)
            · -- 125
              refine E_iconst dX11_isMade_125 (E_istore_n dX11_isMade_126 (E_iinc dX11_isMade_127 rfl (E_goto 74 dX11_isMade_130 (no (fun e => ?_)))))
              subst e
              first | exact h101 rfl | exact h118 rfl
            · -- 121
              refine E_iconst dX11_isMade_121 ?_
              refine E_goto 126 dX11_isMade_122 ?_
              refine E_istore_n dX11_isMade_126 ?_
              refine E_iinc dX11_isMade_127 rfl ?_
              refine E_goto 74 dX11_isMade_130 ?_
              exact yes (Prod.ext h101 h118)
theorem m_isMade {i : Int} {d s : Sp} (hi : isS i) (hd : RepB μ d) (hs : RepN μ 204 (16 * i) s) (hdl : d.2.2.2.length ≤ 6) (hok : spOk s) (hdm : ∀ y ∈ d.2.2.2, smF y) (k1 : -1000000 ≤ d.1 ∧ d.1 ≤ 1000000 ∧ -1000000 ≤ d.2.1 ∧ d.2.1 ≤ 1000000 ∧ -1000000 ≤ d.2.2.1 ∧ d.2.2.1 ≤ 1000000) : Ctr G mX11_isMade [.ref 203, vi i] (Hp μ) (R1 (vi (cif (d = s) 1 0)) (Hp μ)) := by
  refine Ctr.of ?_
  have j1 := hi.1
  have j2 := hi.2
  obtain ⟨a1, a2, a3, a4, a5⟩ := id hd
  obtain ⟨o0, o1, o2, o3, o4, o5, o6⟩ := id hok
  have b0 := hs.1
  have b1 := hs.2.1
  have b2 := hs.2.2.1
  have b3 := hs.2.2.2.1
  have no := fun (h : ¬ d = s) => made_0 (G := G) (i := i) h hd (by omega) 0 (by omega) (16 * i)
  refine E_bipush dX11_isMade_0 ?_
  refine E_iload_n dX11_isMade_2 rfl ?_
  refine E_imul dX11_isMade_3 ?_
  refine E_istore_n dX11_isMade_4 ?_
  refine E_aload_n dX11_isMade_5 rfl ?_
  refine GX11_7 sk_203 dX11_isMade_6 ?_
  refine E_iload_n dX11_isMade_9 rfl ?_
  refine E_iconst dX11_isMade_10 ?_
  refine E_iadd dX11_isMade_11 ?_
  refine H_iald sk_204 dX11_isMade_12 ?_
  rw [Int.add_zero, b0]
  refine E_aload_n dX11_isMade_13 rfl ?_
  refine GX11_67 sk_203 dX11_isMade_14 ?_
  rw [a1]
  refine E_icmp_ne 69 dX11_isMade_17 (fun h17 => ?_) (fun h17 => ?_)
  · -- 69
    refine E_iconst dX11_isMade_69 (E_istore_n dX11_isMade_70 (E_iconst dX11_isMade_71 (E_istore dX11_isMade_72 (no (fun e => ?_)))))
    subst e
    first | exact h17 rfl | exact h32 rfl | exact h47 rfl | exact h62 rfl
  · -- 20
    refine E_aload_n dX11_isMade_20 rfl ?_
    refine GX11_7 sk_203 dX11_isMade_21 ?_
    refine E_iload_n dX11_isMade_24 rfl ?_
    refine E_iconst dX11_isMade_25 ?_
    refine E_iadd dX11_isMade_26 ?_
    refine H_iald sk_204 dX11_isMade_27 ?_
    rw [b1]
    refine E_aload_n dX11_isMade_28 rfl ?_
    refine GX11_70 sk_203 dX11_isMade_29 ?_
    rw [a2]
    refine E_icmp_ne 69 dX11_isMade_32 (fun h32 => ?_) (fun h32 => ?_)
    · -- 69
      refine E_iconst dX11_isMade_69 (E_istore_n dX11_isMade_70 (E_iconst dX11_isMade_71 (E_istore dX11_isMade_72 (no (fun e => ?_)))))
      subst e
      first | exact h17 rfl | exact h32 rfl | exact h47 rfl | exact h62 rfl
    · -- 35
      refine E_aload_n dX11_isMade_35 rfl ?_
      refine GX11_7 sk_203 dX11_isMade_36 ?_
      refine E_iload_n dX11_isMade_39 rfl ?_
      refine E_iconst dX11_isMade_40 ?_
      refine E_iadd dX11_isMade_41 ?_
      refine H_iald sk_204 dX11_isMade_42 ?_
      rw [b2]
      refine E_aload_n dX11_isMade_43 rfl ?_
      refine GX11_73 sk_203 dX11_isMade_44 ?_
      rw [a3]
      refine E_icmp_ne 69 dX11_isMade_47 (fun h47 => ?_) (fun h47 => ?_)
      · -- 69
        refine E_iconst dX11_isMade_69 (E_istore_n dX11_isMade_70 (E_iconst dX11_isMade_71 (E_istore dX11_isMade_72 (no (fun e => ?_)))))
        subst e
        first | exact h17 rfl | exact h32 rfl | exact h47 rfl | exact h62 rfl
      · -- 50
        refine E_aload_n dX11_isMade_50 rfl ?_
        refine GX11_7 sk_203 dX11_isMade_51 ?_
        refine E_iload_n dX11_isMade_54 rfl ?_
        refine E_iconst dX11_isMade_55 ?_
        refine E_iadd dX11_isMade_56 ?_
        refine H_iald sk_204 dX11_isMade_57 ?_
        rw [b3]
        refine E_aload_n dX11_isMade_58 rfl ?_
        refine GX11_76 sk_203 dX11_isMade_59 ?_
        rw [a4]
        refine E_icmp_ne 69 dX11_isMade_62 (fun h62 => ?_) (fun h62 => ?_)
        · -- 69
          refine E_iconst dX11_isMade_69 (E_istore_n dX11_isMade_70 (E_iconst dX11_isMade_71 (E_istore dX11_isMade_72 (no (fun e => ?_)))))
          subst e
          first | exact h17 rfl | exact h32 rfl | exact h47 rfl | exact h62 rfl
        · -- 65
          refine E_iconst dX11_isMade_65 ?_
          refine E_goto 70 dX11_isMade_66 ?_
          refine E_istore_n dX11_isMade_70 ?_
          refine E_iconst dX11_isMade_71 ?_
          refine E_istore dX11_isMade_72 ?_
          exact made_1 hi hd hs hdl hdm (fun y hy => smF_of (o6 y hy)) h17.symm h32.symm h47.symm _ d.2.2.2 s.2.2.2 [] rfl rfl (by omega)
theorem mall_loop (hs : RepW μ 204 0 σ.1) (hok : shOk σ.1) : ∀ (t k : Nat), k + t = 6 →
    E G mX11_allFibres (Zq G mX11_allFibres (R1 (vi (sumF σ.1 6)) (Hp μ))) 0 0 4 [.ref 203, vi (sumF σ.1 k), vi (k : Int)] [] (Hp μ)
  | 0, k, hk => by
    have : k = 6 := by omega
    subst this
    refine E_iload_n dX11_allFibres_4 rfl ?_
    refine E_bipush dX11_allFibres_5 ?_
    refine E_icmp_ge 24 dX11_allFibres_7 (fun h7 => ?_) (fun h7 => ?_)
    · -- 24
      refine E_iload_n dX11_allFibres_24 rfl ?_
      refine E_iret dX11_allFibres_25 ?_
      exact ⟨rfl, rfl⟩
    · -- 10
      exfalso; omega
  | t + 1, k, hk => by
    have q1 : isS (k : Int) := ⟨by omega, by omega⟩
    have hn := rn_at q1 hs
    refine E_iload_n dX11_allFibres_4 rfl ?_
    refine E_bipush dX11_allFibres_5 ?_
    refine E_icmp_ge 24 dX11_allFibres_7 (fun h7 => ?_) (fun h7 => ?_)
    · -- 24
      exfalso; omega
    · -- 10
      refine E_iload_n dX11_allFibres_10 rfl ?_
      refine E_aload_n dX11_allFibres_11 rfl ?_
      refine E_iload_n dX11_allFibres_12 rfl ?_
      refine E_callVR dX11_allFibres_13 lkX11_100 (Hp_get sk_203) (m_fibres q1 hn) ?_
      refine E_iadd dX11_allFibres_16 ?_
      refine E_istore_n dX11_allFibres_17 ?_
      refine E_iinc dX11_allFibres_18 rfl ?_
      refine E_goto 4 dX11_allFibres_21 ?_
      exact mall_loop hs hok t (k + 1) (by omega)
theorem m_allFibres (hs : RepW μ 204 0 σ.1) (hok : shOk σ.1) : Ctr G mX11_allFibres [.ref 203] (Hp μ) (R1 (vi (sumF σ.1 6)) (Hp μ)) := by
  refine Ctr.of ?_
  refine E_iconst dX11_allFibres_0 ?_
  refine E_istore_n dX11_allFibres_1 ?_
  refine E_iconst dX11_allFibres_2 ?_
  refine E_istore_n dX11_allFibres_3 ?_
  exact mall_loop hs hok 6 0 (by omega)
end MSHELF
