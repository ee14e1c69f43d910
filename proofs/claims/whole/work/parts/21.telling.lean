/-! the text, and how the class reads it -/
def isDg (c : Int) : Bool := decide (48 ≤ c) && decide (c ≤ 57)
theorem isDg_t {c : Int} : isDg c = true ↔ 48 ≤ c ∧ c ≤ 57 := by simp [isDg]
theorem isDg_f {c : Int} : isDg c = false ↔ ¬ (48 ≤ c ∧ c ≤ 57) := by rw [← isDg_t]; simp
def numV : Int → List Int → Int
  | v, [] => v
  | v, c :: t => if isDg c then numV (min (10 * v + c - 48) 1000) t else v
def skipB (r : List Int) : List Int := r.dropWhile (fun c => decide (c = 32))
def tkK (r : List Int) : Int := match r with
  | [] => 257
  | c :: _ => if isDg c then 256 else c
def tkV (r : List Int) : Int := match r with
  | c :: d :: t => if c = 48 ∧ isDg d = true then 1000 else numV 0 (c :: d :: t)
  | r => numV 0 r
def tkR (r : List Int) : List Int := match r with
  | [] => []
  | c :: t => if isDg c then (c :: t).dropWhile isDg else t
def nxt (r : List Int) : List Int := skipB (tkR r)
theorem dw_len {p : Int → Bool} : ∀ l : List Int, (l.dropWhile p).length ≤ l.length
  | [] => by simp
  | c :: t => by
    have := dw_len (p := p) t
    rw [List.dropWhile_cons]
    split
    · simp; omega
    · simp
theorem dw_suf {p : Int → Bool} : ∀ l : List Int, ∃ a, l = a ++ l.dropWhile p
  | [] => ⟨[], by simp⟩
  | c :: t => by
    rw [List.dropWhile_cons]
    split
    · obtain ⟨a, ha⟩ := dw_suf (p := p) t
      exact ⟨c :: a, by rw [List.cons_append, ← ha]⟩
    · exact ⟨[], rfl⟩
theorem tkR_len (r : List Int) : (tkR r).length ≤ r.length ∧ (r ≠ [] → (tkR r).length < r.length) := by
  cases r with
  | nil => simp [tkR]
  | cons c t =>
    simp only [tkR]
    split
    · next h =>
      rw [List.dropWhile_cons, if_pos h]
      have := dw_len (p := isDg) t
      simp; omega
    · simp
theorem tkR_suf (r : List Int) : ∃ a, r = a ++ tkR r := by
  cases r with
  | nil => exact ⟨[], rfl⟩
  | cons c t =>
    simp only [tkR]
    split
    · exact dw_suf _
    · exact ⟨[c], rfl⟩
theorem nxt_suf (r : List Int) : ∃ a, r = a ++ nxt r := by
  obtain ⟨a, ha⟩ := tkR_suf r
  obtain ⟨b, hb⟩ := dw_suf (p := fun c => decide (c = 32)) (tkR r)
  refine ⟨a ++ b, ?_⟩
  unfold nxt skipB
  rw [List.append_assoc, ← hb]; exact ha
theorem nxt_len (r : List Int) : (nxt r).length ≤ r.length ∧ (r ≠ [] → (nxt r).length < r.length) := by
  have h1 := tkR_len r
  have h2 := dw_len (p := fun c => decide (c = 32)) (tkR r)
  unfold nxt skipB
  exact ⟨by omega, fun h => by have := h1.2 h; omega⟩
theorem tkK_ne {r : List Int} (hb : ∀ c ∈ r, 0 ≤ c ∧ c ≤ 255) (h : tkK r ≠ 257) : r ≠ [] := by rintro rfl; exact h rfl
theorem tkK_nil {r : List Int} (hb : ∀ c ∈ r, 0 ≤ c ∧ c ≤ 255) (h : tkK r = 257) : r = [] := by
  cases r with
  | nil => rfl
  | cons c t =>
    have := hb c List.mem_cons_self
    simp only [tkK] at h
    split at h <;> omega
theorem tkK_rng {r : List Int} (hb : ∀ c ∈ r, 0 ≤ c ∧ c ≤ 255) : 0 ≤ tkK r ∧ tkK r ≤ 257 := by
  cases r with
  | nil => simp [tkK]
  | cons c t =>
    have := hb c List.mem_cons_self
    simp only [tkK]
    split <;> omega
theorem numV_rng : ∀ (l : List Int) (v : Int), 0 ≤ v → v ≤ 1000 → 0 ≤ numV v l ∧ numV v l ≤ 1000
  | [], v, h0, h1 => by simp [numV]; omega
  | c :: t, v, h0, h1 => by
    simp only [numV]
    split
    · next h =>
      have := isDg_t.mp h
      exact numV_rng t _ (by omega) (by omega)
    · omega
theorem tkV_rng (r : List Int) : 0 ≤ tkV r ∧ tkV r ≤ 1000 := by
  unfold tkV
  split
  · split
    · omega
    · exact numV_rng _ _ (by omega) (by omega)
  · exact numV_rng _ _ (by omega) (by omega)
def RepT (μ : Mem) (t : List Int) : Prop := μ 145 1 = t.length ∧ t.length ≤ 100 ∧ RepV μ 146 t
def txOk (t : List Int) : Prop := ∀ c ∈ t, 0 ≤ c ∧ c ≤ 255
/-- the token at r is the present one -/
def TkS (μ : Mem) (t r : List Int) : Prop := RepT μ t ∧ μ 145 3 = tkK r ∧ μ 145 4 = (t.length : Int) - r.length ∧ μ 145 2 = (t.length : Int) - (tkR r).length ∧ (tkK r = 256 → μ 145 5 = tkV r) ∧ ∃ a, t = a ++ r
theorem TkS.kept {μ μ' : Mem} {t r : List Int} (h : TkS μ t r) (h1 : ∀ j : Int, 1 ≤ j → j ≤ 5 → μ' 145 j = μ 145 j) (h2 : μ' 146 = μ 146) : TkS μ' t r := by
  obtain ⟨⟨a1, a2, a3⟩, a4, a5, a6, a7, a8⟩ := h
  exact ⟨⟨by rw [h1 1 (by omega) (by omega)]; exact a1, a2, a3.kept h2⟩, by rw [h1 3 (by omega) (by omega)]; exact a4, by rw [h1 4 (by omega) (by omega)]; exact a5, by rw [h1 2 (by omega) (by omega)]; exact a6, fun q => by rw [h1 5 (by omega) (by omega)]; exact a7 q, a8⟩
theorem RepD.keptD {μ μ' : Mem} {r : Nat} {s : Sp} (h : RepD μ r s) (h0 : μ' r = μ r) (hA : μ' (r + 1) = μ (r + 1)) (hB : μ' (r + 2) = μ (r + 2)) : RepD μ' r s := by
  obtain ⟨a1, a2, a3, a4, a5⟩ := h
  exact ⟨by rw [h0]; exact a1, by rw [h0]; exact a2, by rw [h0]; exact a3, fun q => ⟨by rw [h0]; exact (a4 q).1, by rw [h0]; exact (a4 q).2.1, (a4 q).2.2.kept hA hB⟩, fun q => ⟨by rw [h0]; exact (a5 q).1, by rw [h0]; exact (a5 q).2⟩⟩
section TELL
variable {G : GT} {μ : Mem} {f : Nat} {t : List Int}
theorem c_byteAt {p : Int} (hp : 0 ≤ p ∧ p < 100) : Ctr G mX9_byteAt [.ref 145, vi p] (Hp μ) (R1 (vi (μ 146 p)) (Hp μ)) := by
  refine Ctr.of ?_
  refine E_iload_n dX9_byteAt_0 rfl ?_
  refine E_if_lt 19 dX9_byteAt_1 (fun h1 => ?_) (fun h1 => ?_)
  · -- 19
    exfalso; omega
  · -- 4
    refine E_iload_n dX9_byteAt_4 rfl ?_
    refine E_bipush dX9_byteAt_5 ?_
    refine E_icmp_ge 19 dX9_byteAt_7 (fun h7 => ?_) (fun h7 => ?_)
    · -- 19
      exfalso; omega
    · -- 10
      refine E_aload_n dX9_byteAt_10 rfl ?_
      refine GX9_9 sk_145 dX9_byteAt_11 ?_
      refine E_iload_n dX9_byteAt_14 rfl ?_
      refine H_iald sk_146 dX9_byteAt_15 ?_
      refine E_goto 20 dX9_byteAt_16 ?_
      refine E_iret dX9_byteAt_20 ?_
      exact ⟨rfl, rfl⟩
theorem txt_at {a r : List Int} {c : Int} (hT : RepT μ t) (ht : t = a ++ c :: r) : μ 146 a.length = c ∧ a.length < 100 := by
  have k3 := hT.2.2
  have k2 := hT.2.1
  rw [ht] at k3 k2
  simp at k2
  exact ⟨k3.mid, by omega⟩
def dgH (r : List Int) : Int := match r with
  | [] => 0
  | c :: _ => if isDg c then 1 else 0
theorem c_isDigit {a r : List Int} (hT : RepT μ t) (hx : txOk t) (ht : t = a ++ r) : Ctr G mX9_isDigit [.ref 145, vi (a.length : Int)] (Hp μ) (R1 (vi (dgH r)) (Hp μ)) := by
  refine Ctr.of ?_
  have k1 := hT.1
  have k2 := hT.2.1
  cases r with
  | nil =>
    rw [ht] at k1 k2
    simp at k1 k2
    refine E_iload_n dX9_isDigit_0 rfl ?_
    refine E_aload_n dX9_isDigit_1 rfl ?_
    refine GX9_15 sk_145 dX9_isDigit_2 ?_
    refine E_icmp_ge 32 dX9_isDigit_5 (fun h5 => ?_) (fun h5 => ?_)
    · -- 32
      refine E_iconst dX9_isDigit_32 ?_
      refine E_zret dX9_isDigit_33 ?_ (by first | exact Or.inl rfl | exact Or.inr rfl | omega)
      exact ⟨rfl, rfl⟩
    · -- 8
      exfalso; omega
  | cons c r =>
    have ka := txt_at hT ht
    have kc := hx c (by rw [ht]; simp)
    rw [ht] at k1 k2
    simp at k1 k2
    by_cases hd : isDg c = true
    · have kd := isDg_t.mp hd
      have e : dgH (c :: r) = 1 := by simp [dgH, hd]
      rw [e]
      refine E_iload_n dX9_isDigit_0 rfl ?_
      refine E_aload_n dX9_isDigit_1 rfl ?_
      refine GX9_15 sk_145 dX9_isDigit_2 ?_
      refine E_icmp_ge 32 dX9_isDigit_5 (fun h5 => ?_) (fun h5 => ?_)
      · -- 32
        exfalso; omega
      · -- 8
        refine E_aload_n dX9_isDigit_8 rfl ?_
        refine E_iload_n dX9_isDigit_9 rfl ?_
        refine E_callVR dX9_isDigit_10 lkX9_73 (Hp_get sk_145) (c_byteAt (p := (a.length : Int)) (by omega)) ?_
        rw [ka.1]
        refine E_bipush dX9_isDigit_13 ?_
        refine E_icmp_lt 32 dX9_isDigit_15 (fun h15 => ?_) (fun h15 => ?_)
        · -- 32
          exfalso; omega
        · -- 18
          refine E_aload_n dX9_isDigit_18 rfl ?_
          refine E_iload_n dX9_isDigit_19 rfl ?_
          refine E_callVR dX9_isDigit_20 lkX9_73 (Hp_get sk_145) (c_byteAt (p := (a.length : Int)) (by omega)) ?_
          rw [ka.1]
          refine E_bipush dX9_isDigit_23 ?_
          refine E_icmp_gt 32 dX9_isDigit_25 (fun h25 => ?_) (fun h25 => ?_)
          · -- 32
            exfalso; omega
          · -- 28
            refine E_iconst dX9_isDigit_28 ?_
            refine E_goto 33 dX9_isDigit_29 ?_
            refine E_zret dX9_isDigit_33 ?_ (by first | exact Or.inl rfl | exact Or.inr rfl | omega)
            exact ⟨rfl, rfl⟩
    · have kd := mt isDg_t.mpr hd
      have e : dgH (c :: r) = 0 := by simp [dgH, hd]
      rw [e]
      refine E_iload_n dX9_isDigit_0 rfl ?_
      refine E_aload_n dX9_isDigit_1 rfl ?_
      refine GX9_15 sk_145 dX9_isDigit_2 ?_
      refine E_icmp_ge 32 dX9_isDigit_5 (fun h5 => ?_) (fun h5 => ?_)
      · -- 32
        refine E_iconst dX9_isDigit_32 ?_
        refine E_zret dX9_isDigit_33 ?_ (by first | exact Or.inl rfl | exact Or.inr rfl | omega)
        exact ⟨rfl, rfl⟩
      · -- 8
        refine E_aload_n dX9_isDigit_8 rfl ?_
        refine E_iload_n dX9_isDigit_9 rfl ?_
        refine E_callVR dX9_isDigit_10 lkX9_73 (Hp_get sk_145) (c_byteAt (p := (a.length : Int)) (by omega)) ?_
        rw [ka.1]
        refine E_bipush dX9_isDigit_13 ?_
        refine E_icmp_lt 32 dX9_isDigit_15 (fun h15 => ?_) (fun h15 => ?_)
        · -- 32
          refine E_iconst dX9_isDigit_32 ?_
          refine E_zret dX9_isDigit_33 ?_ (by first | exact Or.inl rfl | exact Or.inr rfl | omega)
          exact ⟨rfl, rfl⟩
        · -- 18
          refine E_aload_n dX9_isDigit_18 rfl ?_
          refine E_iload_n dX9_isDigit_19 rfl ?_
          refine E_callVR dX9_isDigit_20 lkX9_73 (Hp_get sk_145) (c_byteAt (p := (a.length : Int)) (by omega)) ?_
          rw [ka.1]
          refine E_bipush dX9_isDigit_23 ?_
          refine E_icmp_gt 32 dX9_isDigit_25 (fun h25 => ?_) (fun h25 => ?_)
          · -- 32
            refine E_iconst dX9_isDigit_32 ?_
            refine E_zret dX9_isDigit_33 ?_ (by first | exact Or.inl rfl | exact Or.inr rfl | omega)
            exact ⟨rfl, rfl⟩
          · -- 28
            exfalso; omega
theorem dgH_rng (r : List Int) : dgH r = 0 ∨ dgH r = 1 := by
  cases r with
  | nil => exact Or.inl rfl
  | cons c r => simp only [dgH]; split <;> simp
/-- reading digits -/
theorem rn_loop (hx : txOk t) {Q : QT} : ∀ (q a : List Int) (v : Int) (μ' : Mem), t = a ++ q → RepT μ' t → μ' 145 2 = a.length → μ' 145 5 = v → 0 ≤ v → v ≤ 1000 → (∀ j : Int, j ≠ 2 → j ≠ 5 → μ' 145 j = μ 145 j) → Off 145 1 μ μ' →
    (∀ μ2 : Mem, RepT μ2 t → μ2 145 2 = (t.length : Int) - (q.dropWhile isDg).length → μ2 145 5 = numV v q → (∀ j : Int, j ≠ 2 → j ≠ 5 → μ2 145 j = μ 145 j) → Off 145 1 μ μ2 → E G mX9_readNumber (Zq G mX9_readNumber Q) 0 0 69 [.ref 145, .retAddr 0] [] (Hp μ2)) →
    E G mX9_readNumber (Zq G mX9_readNumber Q) 0 0 5 [.ref 145, .retAddr 0] [] (Hp μ') := by
  intro q
  induction q with
  | nil =>
    intro a v μ' e1 e2 e3 e4 e5 e6 e7 e8 hk
    have k1 := e2.1
    have k2 := e2.2.1
    simp only [List.append_nil] at e1
    subst e1
    refine E_aload_n dX9_readNumber_5 rfl ?_
    refine GX9_25 sk_145 dX9_readNumber_6 ?_
    refine E_aload_n dX9_readNumber_9 rfl ?_
    refine GX9_15 sk_145 dX9_readNumber_10 ?_
    refine E_icmp_ge 69 dX9_readNumber_13 (fun h13 => ?_) (fun h13 => ?_)
    · -- 69
      exact hk μ' e2 (by simp; omega) e4 e7 e8
    · -- 16
      exfalso; omega
  | cons c q ih =>
    intro a v μ' e1 e2 e3 e4 e5 e6 e7 e8 hk
    have k1 := e2.1
    have k2 := e2.2.1
    have ka := txt_at e2 e1
    have kc := hx c (by rw [e1]; simp)
    have kl : (t.length : Int) = a.length + 1 + q.length := by rw [e1]; simp; omega
    have hdig := c_isDigit (G := G) e2 hx e1
    by_cases hd : isDg c = true
    · have kd := isDg_t.mp hd
      rw [show dgH (c :: q) = 1 by simp [dgH, hd]] at hdig
      refine E_aload_n dX9_readNumber_5 rfl ?_
      refine GX9_25 sk_145 dX9_readNumber_6 ?_
      refine E_aload_n dX9_readNumber_9 rfl ?_
      refine GX9_15 sk_145 dX9_readNumber_10 ?_
      refine E_icmp_ge 69 dX9_readNumber_13 (fun h13 => ?_) (fun h13 => ?_)
      · -- 69
        exfalso; omega
      · -- 16
        refine E_aload_n dX9_readNumber_16 rfl ?_
        refine E_aload_n dX9_readNumber_17 rfl ?_
        refine GX9_25 sk_145 dX9_readNumber_18 ?_
        rw [e3]
        refine E_callVR dX9_readNumber_21 lkX9_77 (Hp_get sk_145) (hdig) ?_
        refine E_if_eq 69 dX9_readNumber_24 (fun h24 => ?_) (fun h24 => ?_)
        · -- 69
          exfalso; omega
        · -- 27
          refine E_aload_n dX9_readNumber_27 rfl ?_
          refine E_bipush dX9_readNumber_28 ?_
          refine E_aload_n dX9_readNumber_30 rfl ?_
          refine GX9_60 sk_145 dX9_readNumber_31 ?_
          rw [e4]
          refine E_imul dX9_readNumber_34 ?_
          refine E_aload_n dX9_readNumber_35 rfl ?_
          refine E_aload_n dX9_readNumber_36 rfl ?_
          refine GX9_25 sk_145 dX9_readNumber_37 ?_
          rw [e3]
          refine E_callVR dX9_readNumber_40 lkX9_73 (Hp_get sk_145) (c_byteAt (p := (a.length : Int)) (by omega)) ?_
          rw [ka.1]
          refine E_iadd dX9_readNumber_43 ?_
          refine E_bipush dX9_readNumber_44 ?_
          refine E_isub dX9_readNumber_46 ?_
          refine E_sipush dX9_readNumber_47 ?_
          refine E_callSR dX9_readNumber_50 lkX9_84 (c_min (x := 10 * v + c - 48) (z := 1000) (by omega) (by omega)) ?_
          refine PX9_60 sk_145 dX9_readNumber_53 ?_
          refine E_aload_n dX9_readNumber_56 rfl ?_
          refine E_dup dX9_readNumber_57 ?_
          refine GX9_25 sk_145 dX9_readNumber_58 ?_
          rw [up_r, if_neg (by omega), e3]
          refine E_iconst dX9_readNumber_61 ?_
          refine E_iadd dX9_readNumber_62 ?_
          refine PX9_25 sk_145 dX9_readNumber_63 ?_
          refine E_goto 5 dX9_readNumber_66 ?_
          refine ih (a ++ [c]) (min (10 * v + c - 48) 1000) _ (by rw [e1]; simp) ⟨by rw [up_r, if_neg (by omega), up_r, if_neg (by omega)]; exact k1, k2, e2.2.2.kept (by rw [up_ne 146 (by decide), up_ne 146 (by decide)])⟩ (by rw [up_r, if_pos rfl]; simp) (by rw [up_r, if_neg (by omega), up_r, if_pos rfl]) (by omega) (by omega) (fun j j2 j5 => by rw [up_r, if_neg j2, up_r, if_neg j5]; exact e7 j j2 j5) ((e8.up (by omega) (by omega)).up (by omega) (by omega)) (fun μ2 q1 q2 q3 q4 q5 => hk μ2 q1 (by rw [List.dropWhile_cons, if_pos hd]; exact q2) (by rw [numV, if_pos hd]; exact q3) q4 q5)
    · have kd := mt isDg_t.mpr hd
      rw [show dgH (c :: q) = 0 by simp [dgH, hd]] at hdig
      refine E_aload_n dX9_readNumber_5 rfl ?_
      refine GX9_25 sk_145 dX9_readNumber_6 ?_
      refine E_aload_n dX9_readNumber_9 rfl ?_
      refine GX9_15 sk_145 dX9_readNumber_10 ?_
      refine E_icmp_ge 69 dX9_readNumber_13 (fun h13 => ?_) (fun h13 => ?_)
      · -- 69
        first | (exfalso; omega) | exact hk μ' e2 (by rw [List.dropWhile_cons, if_neg hd, e3]; simp; omega) (by rw [numV, if_neg hd]; exact e4) e7 e8
      · -- 16
        refine E_aload_n dX9_readNumber_16 rfl ?_
        refine E_aload_n dX9_readNumber_17 rfl ?_
        refine GX9_25 sk_145 dX9_readNumber_18 ?_
        rw [e3]
        refine E_callVR dX9_readNumber_21 lkX9_77 (Hp_get sk_145) (hdig) ?_
        refine E_if_eq 69 dX9_readNumber_24 (fun h24 => ?_) (fun h24 => ?_)
        · -- 69
          first | (exfalso; omega) | exact hk μ' e2 (by rw [List.dropWhile_cons, if_neg hd, e3]; simp; omega) (by rw [numV, if_neg hd]; exact e4) e7 e8
        · -- 27
          exfalso; omega
theorem rn_tail {μ2 : Mem} {a r : List Int} {c : Int} (hT : RepT μ t) (hx : txOk t) (ht : t = a ++ c :: r) (hc : isDg c = true) (ha : μ 145 2 = a.length) (hb : μ 145 4 = a.length) (kl : (t.length : Int) = a.length + 1 + r.length) (eR : tkR (c :: r) = (c :: r).dropWhile isDg) (k2 : t.length ≤ 100) (ka : μ2 146 a.length = c ∧ a.length < 100) (k4 : μ2 145 4 = μ 145 4) (q1 : RepT μ2 t) (q2 : μ2 145 2 = (t.length : Int) - ((c :: r).dropWhile isDg).length) (q3 : μ2 145 5 = numV 0 (c :: r)) (q4 : ∀ j : Int, j ≠ 2 → j ≠ 5 → μ2 145 j = μ 145 j) (q5 : Off 145 1 μ μ2) :
    E G mX9_readNumber (Zq G mX9_readNumber (V0 (fun μ' => RepT μ' t ∧ μ' 145 2 = (t.length : Int) - (tkR (c :: r)).length ∧ μ' 145 5 = tkV (c :: r) ∧ (∀ j : Int, j ≠ 2 → j ≠ 5 → μ' 145 j = μ 145 j) ∧ Off 145 1 μ μ'))) 0 0 69 [.ref 145, .retAddr 0] [] (Hp μ2) := by
  have kd := isDg_t.mp hc
  have kz : (c = 48 ∧ ((c :: r).dropWhile isDg).length < r.length) ∨ (¬ (c = 48 ∧ ((c :: r).dropWhile isDg).length < r.length)) := by omega
  have kdl : ((c :: r).dropWhile isDg).length ≤ r.length := by rw [List.dropWhile_cons, if_pos hc]; exact dw_len r
  have kT : c = 48 → ((c :: r).dropWhile isDg).length < r.length → tkV (c :: r) = 1000 := by
    intro h1 h2
    rw [List.dropWhile_cons, if_pos hc] at h2
    cases r with
    | nil => simp at h2
    | cons d r =>
      by_cases hd : isDg d = true
      · simp [tkV, h1, hd]
      · rw [List.dropWhile_cons, if_neg hd] at h2; omega
  have kF : ¬ (c = 48 ∧ ((c :: r).dropWhile isDg).length < r.length) → tkV (c :: r) = numV 0 (c :: r) := by
    intro h1
    rw [List.dropWhile_cons, if_pos hc] at h1
    cases r with
    | nil => simp [tkV]
    | cons d r =>
      simp only [tkV]
      rw [if_neg]
      rintro ⟨h2, h3⟩
      apply h1
      refine ⟨h2, ?_⟩
      rw [List.dropWhile_cons, if_pos h3]
      have := dw_len (p := isDg) r
      simp; omega
  refine E_aload_n dX9_readNumber_69 rfl ?_
  refine E_aload_n dX9_readNumber_70 rfl ?_
  refine GX9_47 sk_145 dX9_readNumber_71 ?_
  rw [k4, hb]
  refine E_callVR dX9_readNumber_74 lkX9_73 (Hp_get sk_145) (c_byteAt (p := (a.length : Int)) (by omega)) ?_
  rw [ka.1]
  refine E_bipush dX9_readNumber_77 ?_
  refine E_icmp_ne 99 dX9_readNumber_79 (fun h79 => ?_) (fun h79 => ?_)
  · -- 99
    refine E_iconst dX9_readNumber_99 ?_
    refine E_istore_n dX9_readNumber_100 ?_
    refine E_iload_n dX9_readNumber_101 rfl ?_
    refine E_if_eq 112 dX9_readNumber_102 (fun h102 => ?_) (fun h102 => ?_)
    · -- 112
      refine E_vret dX9_readNumber_112 ?_
      first | exact ⟨rfl, _, rfl, q1, by rw [eR]; exact q2, by rw [kF (by omega)]; exact q3, q4, q5⟩ | (exfalso; omega) | exact ⟨rfl, _, rfl, ⟨by rw [up_r, if_neg (by omega)]; exact q1.1, q1.2.1, q1.2.2.kept (up_ne 146 (by decide))⟩, by rw [up_r, if_neg (by omega), eR]; exact q2, by rw [up_r, if_pos rfl, kT (by omega) (by omega)], fun j j2 j5 => by rw [up_r, if_neg j5]; exact q4 j j2 j5, q5.up (by omega) (by omega)⟩
    · -- 105
      refine E_aload_n dX9_readNumber_105 rfl ?_
      refine E_sipush dX9_readNumber_106 ?_
      refine PX9_60 sk_145 dX9_readNumber_109 ?_
      refine E_vret dX9_readNumber_112 ?_
      first | exact ⟨rfl, _, rfl, q1, by rw [eR]; exact q2, by rw [kF (by omega)]; exact q3, q4, q5⟩ | (exfalso; omega) | exact ⟨rfl, _, rfl, ⟨by rw [up_r, if_neg (by omega)]; exact q1.1, q1.2.1, q1.2.2.kept (up_ne 146 (by decide))⟩, by rw [up_r, if_neg (by omega), eR]; exact q2, by rw [up_r, if_pos rfl, kT (by omega) (by omega)], fun j j2 j5 => by rw [up_r, if_neg j5]; exact q4 j j2 j5, q5.up (by omega) (by omega)⟩
  · -- 82
    refine E_aload_n dX9_readNumber_82 rfl ?_
    refine GX9_25 sk_145 dX9_readNumber_83 ?_
    refine E_aload_n dX9_readNumber_86 rfl ?_
    refine GX9_47 sk_145 dX9_readNumber_87 ?_
    refine E_iconst dX9_readNumber_90 ?_
    refine E_iadd dX9_readNumber_91 ?_
    refine E_icmp_le 99 dX9_readNumber_92 (fun h92 => ?_) (fun h92 => ?_)
    · -- 99
      refine E_iconst dX9_readNumber_99 ?_
      refine E_istore_n dX9_readNumber_100 ?_
      refine E_iload_n dX9_readNumber_101 rfl ?_
      refine E_if_eq 112 dX9_readNumber_102 (fun h102 => ?_) (fun h102 => ?_)
      · -- 112
        refine E_vret dX9_readNumber_112 ?_
        first | exact ⟨rfl, _, rfl, q1, by rw [eR]; exact q2, by rw [kF (by omega)]; exact q3, q4, q5⟩ | (exfalso; omega) | exact ⟨rfl, _, rfl, ⟨by rw [up_r, if_neg (by omega)]; exact q1.1, q1.2.1, q1.2.2.kept (up_ne 146 (by decide))⟩, by rw [up_r, if_neg (by omega), eR]; exact q2, by rw [up_r, if_pos rfl, kT (by omega) (by omega)], fun j j2 j5 => by rw [up_r, if_neg j5]; exact q4 j j2 j5, q5.up (by omega) (by omega)⟩
      · -- 105
        refine E_aload_n dX9_readNumber_105 rfl ?_
        refine E_sipush dX9_readNumber_106 ?_
        refine PX9_60 sk_145 dX9_readNumber_109 ?_
        refine E_vret dX9_readNumber_112 ?_
        first | exact ⟨rfl, _, rfl, q1, by rw [eR]; exact q2, by rw [kF (by omega)]; exact q3, q4, q5⟩ | (exfalso; omega) | exact ⟨rfl, _, rfl, ⟨by rw [up_r, if_neg (by omega)]; exact q1.1, q1.2.1, q1.2.2.kept (up_ne 146 (by decide))⟩, by rw [up_r, if_neg (by omega), eR]; exact q2, by rw [up_r, if_pos rfl, kT (by omega) (by omega)], fun j j2 j5 => by rw [up_r, if_neg j5]; exact q4 j j2 j5, q5.up (by omega) (by omega)⟩
    · -- 95
      refine E_iconst dX9_readNumber_95 ?_
      refine E_goto 100 dX9_readNumber_96 ?_
      refine E_istore_n dX9_readNumber_100 ?_
      refine E_iload_n dX9_readNumber_101 rfl ?_
      refine E_if_eq 112 dX9_readNumber_102 (fun h102 => ?_) (fun h102 => ?_)
      · -- 112
        refine E_vret dX9_readNumber_112 ?_
        first | exact ⟨rfl, _, rfl, q1, by rw [eR]; exact q2, by rw [kF (by omega)]; exact q3, q4, q5⟩ | (exfalso; omega) | exact ⟨rfl, _, rfl, ⟨by rw [up_r, if_neg (by omega)]; exact q1.1, q1.2.1, q1.2.2.kept (up_ne 146 (by decide))⟩, by rw [up_r, if_neg (by omega), eR]; exact q2, by rw [up_r, if_pos rfl, kT (by omega) (by omega)], fun j j2 j5 => by rw [up_r, if_neg j5]; exact q4 j j2 j5, q5.up (by omega) (by omega)⟩
      · -- 105
        refine E_aload_n dX9_readNumber_105 rfl ?_
        refine E_sipush dX9_readNumber_106 ?_
        refine PX9_60 sk_145 dX9_readNumber_109 ?_
        refine E_vret dX9_readNumber_112 ?_
        first | exact ⟨rfl, _, rfl, q1, by rw [eR]; exact q2, by rw [kF (by omega)]; exact q3, q4, q5⟩ | (exfalso; omega) | exact ⟨rfl, _, rfl, ⟨by rw [up_r, if_neg (by omega)]; exact q1.1, q1.2.1, q1.2.2.kept (up_ne 146 (by decide))⟩, by rw [up_r, if_neg (by omega), eR]; exact q2, by rw [up_r, if_pos rfl, kT (by omega) (by omega)], fun j j2 j5 => by rw [up_r, if_neg j5]; exact q4 j j2 j5, q5.up (by omega) (by omega)⟩
theorem tkV_1 {c d : Int} {r : List Int} (h : c = 48) (h2 : isDg d = true) : tkV (c :: d :: r) = 1000 := by simp [tkV, h, h2]
theorem c_readNumber {a r : List Int} {c : Int} (hT : RepT μ t) (hx : txOk t) (ht : t = a ++ c :: r) (hc : isDg c = true) (ha : μ 145 2 = a.length) (hb : μ 145 4 = a.length) : Ctr G mX9_readNumber [.ref 145] (Hp μ) (V0 (fun μ' => RepT μ' t ∧ μ' 145 2 = (t.length : Int) - (tkR (c :: r)).length ∧ μ' 145 5 = tkV (c :: r) ∧ (∀ j : Int, j ≠ 2 → j ≠ 5 → μ' 145 j = μ 145 j) ∧ Off 145 1 μ μ')) := by
  refine Ctr.of ?_
  have kl : (t.length : Int) = a.length + 1 + r.length := by rw [ht]; simp; omega
  have eR : tkR (c :: r) = (c :: r).dropWhile isDg := by simp [tkR, hc]
  have k2 := hT.2.1
  refine E_aload_n dX9_readNumber_0 rfl ?_
  refine E_iconst dX9_readNumber_1 ?_
  refine PX9_60 sk_145 dX9_readNumber_2 ?_
  refine rn_loop (G := G) (μ := μ) hx (c :: r) a 0 (up μ 145 5 0) ht ⟨by rw [up_r, if_neg (by omega)]; exact hT.1, hT.2.1, hT.2.2.kept (up_ne 146 (by decide))⟩ (by rw [up_r, if_neg (by omega)]; exact ha) (by rw [up_r, if_pos rfl]) (by omega) (by omega) (fun j j2 j5 => by rw [up_r, if_neg j5]) (Off.rf.up (by omega) (by omega)) (fun μ2 q1 q2 q3 q4 q5 => ?_)
  have ka := txt_at q1 ht
  have k4 := q4 4 (by omega) (by omega)
  have kdl := dw_len (p := isDg) (c :: r)
  exact rn_tail hT hx ht hc ha hb kl eR k2 ka k4 q1 q2 q3 q4 q5
/-- behind the blanks -/
theorem adv_tail {a r : List Int} (hT : RepT μ t) (hx : txOk t) (ht : t = a ++ r) (ha : μ 145 2 = a.length) :
    E G mX9_advance (Zq G mX9_advance (V0 (fun μ' => TkS μ' t r ∧ (∀ j : Int, 6 ≤ j → μ' 145 j = μ 145 j) ∧ Off 145 1 μ μ'))) 0 0 37 [.ref 145] [] (Hp μ) := by
  have k1 := hT.1
  have k2 := hT.2.1
  cases r with
  | nil =>
    simp only [List.append_nil] at ht
    subst ht
    have hdig := fun (μ' : Mem) (hT' : RepT μ' t) => c_isDigit (G := G) hT' hx (a := t) (r := []) (by simp)
    have hT1 : RepT (up (up μ 145 4 (t.length : Int)) 145 3 257) t := ⟨by rw [up_r, if_neg (by omega), up_r, if_neg (by omega)]; exact k1, k2, hT.2.2.kept (by rw [up_ne 146 (by decide), up_ne 146 (by decide)])⟩
    refine E_aload_n dX9_advance_37 rfl ?_
    refine E_aload_n dX9_advance_38 rfl ?_
    refine GX9_25 sk_145 dX9_advance_39 ?_
    rw [ha]
    refine PX9_47 sk_145 dX9_advance_42 ?_
    refine E_aload_n dX9_advance_45 rfl ?_
    refine E_aload_n dX9_advance_46 rfl ?_
    refine GX9_25 sk_145 dX9_advance_47 ?_
    rw [up_r, if_neg (by omega), ha]
    refine E_aload_n dX9_advance_50 rfl ?_
    refine GX9_15 sk_145 dX9_advance_51 ?_
    rw [up_r, if_neg (by omega), k1]
    refine E_icmp_ge 68 dX9_advance_54 (fun h54 => ?_) (fun h54 => ?_)
    · -- 68
      refine E_sipush dX9_advance_68 ?_
      refine PX9_40 sk_145 dX9_advance_71 ?_
      refine E_aload_n dX9_advance_74 rfl ?_
      refine E_aload_n dX9_advance_75 rfl ?_
      refine GX9_25 sk_145 dX9_advance_76 ?_
      rw [up_r, if_neg (by omega), up_r, if_neg (by omega), ha]
      refine E_callVR dX9_advance_79 lkX9_77 (Hp_get sk_145) (hdig _ hT1) ?_
      rw [show dgH [] = 0 from rfl]
      refine E_if_eq 99 dX9_advance_82 (fun h82 => ?_) (fun h82 => ?_)
      · -- 99
        refine E_aload_n dX9_advance_99 rfl ?_
        refine GX9_25 sk_145 dX9_advance_100 ?_
        rw [up_r, if_neg (by omega), up_r, if_neg (by omega), ha]
        refine E_aload_n dX9_advance_103 rfl ?_
        refine GX9_15 sk_145 dX9_advance_104 ?_
        rw [up_r, if_neg (by omega), up_r, if_neg (by omega), k1]
        refine E_icmp_ge 120 dX9_advance_107 (fun h107 => ?_) (fun h107 => ?_)
        · -- 120
          refine E_vret dX9_advance_120 ?_
          refine ⟨rfl, _, rfl, ⟨hT1, by rw [up_r, if_pos rfl]; rfl, by rw [up_r, if_neg (by omega), up_r, if_pos rfl]; simp, by rw [up_r, if_neg (by omega), up_r, if_neg (by omega), ha]; simp [tkR], fun q => by simp [tkK] at q, t, by simp⟩, fun j j6 => by rw [up_r, if_neg (by omega), up_r, if_neg (by omega)], (Off.rf.up (by omega) (by omega)).up (by omega) (by omega)⟩
        · -- 110
          exfalso; omega
      · -- 85
        exact absurd rfl h82
    · -- 57
      exfalso; omega
  | cons c r =>
    have ka := txt_at hT ht
    have kc := hx c (by rw [ht]; simp)
    have kl : (t.length : Int) = a.length + 1 + r.length := by rw [ht]; simp; omega
    have hT1 : ∀ v, RepT (up (up μ 145 4 (a.length : Int)) 145 3 v) t := fun v => ⟨by rw [up_r, if_neg (by omega), up_r, if_neg (by omega)]; exact k1, k2, hT.2.2.kept (by rw [up_ne 146 (by decide), up_ne 146 (by decide)])⟩
    have hdig := c_isDigit (G := G) (hT1 c) hx ht
    by_cases hd : isDg c = true
    · rw [show dgH (c :: r) = 1 by simp [dgH, hd]] at hdig
      refine E_aload_n dX9_advance_37 rfl ?_
      refine E_aload_n dX9_advance_38 rfl ?_
      refine GX9_25 sk_145 dX9_advance_39 ?_
      rw [ha]
      refine PX9_47 sk_145 dX9_advance_42 ?_
      refine E_aload_n dX9_advance_45 rfl ?_
      refine E_aload_n dX9_advance_46 rfl ?_
      refine GX9_25 sk_145 dX9_advance_47 ?_
      rw [up_r, if_neg (by omega), ha]
      refine E_aload_n dX9_advance_50 rfl ?_
      refine GX9_15 sk_145 dX9_advance_51 ?_
      rw [up_r, if_neg (by omega), k1]
      refine E_icmp_ge 68 dX9_advance_54 (fun h54 => ?_) (fun h54 => ?_)
      · -- 68
        exfalso; omega
      · -- 57
        refine E_aload_n dX9_advance_57 rfl ?_
        refine E_aload_n dX9_advance_58 rfl ?_
        refine GX9_25 sk_145 dX9_advance_59 ?_
        rw [up_r, if_neg (by omega), ha]
        refine E_callVR dX9_advance_62 lkX9_73 (Hp_get sk_145) (c_byteAt (p := (a.length : Int)) (by omega)) ?_
        refine E_goto 71 dX9_advance_65 ?_
        rw [up_ne 146 (by decide), ka.1]
        refine PX9_40 sk_145 dX9_advance_71 ?_
        refine E_aload_n dX9_advance_74 rfl ?_
        refine E_aload_n dX9_advance_75 rfl ?_
        refine GX9_25 sk_145 dX9_advance_76 ?_
        rw [up_r, if_neg (by omega), up_r, if_neg (by omega), ha]
        refine E_callVR dX9_advance_79 lkX9_77 (Hp_get sk_145) (hdig) ?_
        refine E_if_eq 99 dX9_advance_82 (fun h82 => ?_) (fun h82 => ?_)
        · -- 99
          exact absurd h82 (by decide)
        · -- 85
          refine E_aload_n dX9_advance_85 rfl ?_
          refine E_sipush dX9_advance_86 ?_
          refine PX9_40 sk_145 dX9_advance_89 ?_
          refine E_aload_n dX9_advance_92 rfl ?_
          have hT3 : RepT (up (up (up μ 145 4 (a.length : Int)) 145 3 c) 145 3 256) t := ⟨by rw [up_r, if_neg (by omega)]; exact (hT1 c).1, k2, (hT1 c).2.2.kept (up_ne 146 (by decide))⟩
          refine E_callVV dX9_advance_93 lkX9_81 (Hp_get sk_145) (c_readNumber hT3 hx ht hd (by rw [up_r, if_neg (by omega), up_r, if_neg (by omega), up_r, if_neg (by omega)]; exact ha) (by rw [up_r, if_neg (by omega), up_r, if_neg (by omega), up_r, if_pos rfl])) ?_
          rintro μ2 ⟨q1, q2, q3, q4, q5⟩
          refine E_goto 120 dX9_advance_96 ?_
          refine E_vret dX9_advance_120 ?_
          refine ⟨rfl, _, rfl, ⟨q1, by rw [q4 3 (by omega) (by omega), up_r, if_pos rfl]; simp [tkK, hd], by rw [q4 4 (by omega) (by omega), up_r, if_neg (by omega), up_r, if_neg (by omega), up_r, if_pos rfl]; simp; omega, q2, fun _ => q3, a, ht⟩, fun j j6 => by rw [q4 j (by omega) (by omega), up_r, if_neg (by omega), up_r, if_neg (by omega), up_r, if_neg (by omega)], (((Off.rf.up (by omega) (by omega)).up (by omega) (by omega)).up (by omega) (by omega)).tr q5⟩
    · rw [show dgH (c :: r) = 0 by simp [dgH, hd]] at hdig
      refine E_aload_n dX9_advance_37 rfl ?_
      refine E_aload_n dX9_advance_38 rfl ?_
      refine GX9_25 sk_145 dX9_advance_39 ?_
      rw [ha]
      refine PX9_47 sk_145 dX9_advance_42 ?_
      refine E_aload_n dX9_advance_45 rfl ?_
      refine E_aload_n dX9_advance_46 rfl ?_
      refine GX9_25 sk_145 dX9_advance_47 ?_
      rw [up_r, if_neg (by omega), ha]
      refine E_aload_n dX9_advance_50 rfl ?_
      refine GX9_15 sk_145 dX9_advance_51 ?_
      rw [up_r, if_neg (by omega), k1]
      refine E_icmp_ge 68 dX9_advance_54 (fun h54 => ?_) (fun h54 => ?_)
      · -- 68
        exfalso; omega
      · -- 57
        refine E_aload_n dX9_advance_57 rfl ?_
        refine E_aload_n dX9_advance_58 rfl ?_
        refine GX9_25 sk_145 dX9_advance_59 ?_
        rw [up_r, if_neg (by omega), ha]
        refine E_callVR dX9_advance_62 lkX9_73 (Hp_get sk_145) (c_byteAt (p := (a.length : Int)) (by omega)) ?_
        refine E_goto 71 dX9_advance_65 ?_
        rw [up_ne 146 (by decide), ka.1]
        refine PX9_40 sk_145 dX9_advance_71 ?_
        refine E_aload_n dX9_advance_74 rfl ?_
        refine E_aload_n dX9_advance_75 rfl ?_
        refine GX9_25 sk_145 dX9_advance_76 ?_
        rw [up_r, if_neg (by omega), up_r, if_neg (by omega), ha]
        refine E_callVR dX9_advance_79 lkX9_77 (Hp_get sk_145) (hdig) ?_
        refine E_if_eq 99 dX9_advance_82 (fun h82 => ?_) (fun h82 => ?_)
        · -- 99
          refine E_aload_n dX9_advance_99 rfl ?_
          refine GX9_25 sk_145 dX9_advance_100 ?_
          rw [up_r, if_neg (by omega), up_r, if_neg (by omega), ha]
          refine E_aload_n dX9_advance_103 rfl ?_
          refine GX9_15 sk_145 dX9_advance_104 ?_
          rw [up_r, if_neg (by omega), up_r, if_neg (by omega), k1]
          refine E_icmp_ge 120 dX9_advance_107 (fun h107 => ?_) (fun h107 => ?_)
          · -- 120
            refine E_vret dX9_advance_120 ?_
            first | (exfalso; omega) | refine ⟨rfl, _, rfl, ⟨⟨by rw [up_r, if_neg (by omega)]; exact (hT1 c).1, k2, (hT1 c).2.2.kept (up_ne 146 (by decide))⟩, by rw [up_r, if_neg (by omega), up_r, if_pos rfl]; simp [tkK, hd], by rw [up_r, if_neg (by omega), up_r, if_neg (by omega), up_r, if_pos rfl]; simp; omega, by rw [up_r, if_pos rfl]; simp [tkR, hd]; omega, fun q => by simp [tkK, hd] at q; omega, a, ht⟩, fun j j6 => by rw [up_r, if_neg (by omega), up_r, if_neg (by omega), up_r, if_neg (by omega)], ((Off.rf.up (by omega) (by omega)).up (by omega) (by omega)).up (by omega) (by omega)⟩
          · -- 110
            refine E_aload_n dX9_advance_110 rfl ?_
            refine E_dup dX9_advance_111 ?_
            refine GX9_25 sk_145 dX9_advance_112 ?_
            rw [up_r, if_neg (by omega), up_r, if_neg (by omega), ha]
            refine E_iconst dX9_advance_115 ?_
            refine E_iadd dX9_advance_116 ?_
            refine PX9_25 sk_145 dX9_advance_117 ?_
            refine E_vret dX9_advance_120 ?_
            first | (exfalso; omega) | refine ⟨rfl, _, rfl, ⟨⟨by rw [up_r, if_neg (by omega)]; exact (hT1 c).1, k2, (hT1 c).2.2.kept (up_ne 146 (by decide))⟩, by rw [up_r, if_neg (by omega), up_r, if_pos rfl]; simp [tkK, hd], by rw [up_r, if_neg (by omega), up_r, if_neg (by omega), up_r, if_pos rfl]; simp; omega, by rw [up_r, if_pos rfl]; simp [tkR, hd]; omega, fun q => by simp [tkK, hd] at q; omega, a, ht⟩, fun j j6 => by rw [up_r, if_neg (by omega), up_r, if_neg (by omega), up_r, if_neg (by omega)], ((Off.rf.up (by omega) (by omega)).up (by omega) (by omega)).up (by omega) (by omega)⟩
        · -- 85
          exact absurd rfl h82
theorem adv_loop (hx : txOk t) : ∀ (r a : List Int) (μ' : Mem), RepT μ' t → t = a ++ r → μ' 145 2 = a.length → (∀ j : Int, 6 ≤ j → μ' 145 j = μ 145 j) → Off 145 1 μ μ' →
    E G mX9_advance (Zq G mX9_advance (V0 (fun μ' => TkS μ' t (skipB r) ∧ (∀ j : Int, 6 ≤ j → μ' 145 j = μ 145 j) ∧ Off 145 1 μ μ'))) 0 0 0 [.ref 145] [] (Hp μ') := by
  intro r
  induction r with
  | nil =>
    intro a μ' e1 e2 e3 e4 e5
    have k1 := e1.1
    have k2 := e1.2.1
    have kl : (t.length : Int) = a.length := by rw [e2]; simp
    refine E_aload_n dX9_advance_0 rfl ?_
    refine GX9_25 sk_145 dX9_advance_1 ?_
    refine E_aload_n dX9_advance_4 rfl ?_
    refine GX9_15 sk_145 dX9_advance_5 ?_
    refine E_icmp_ge 37 dX9_advance_8 (fun h8 => ?_) (fun h8 => ?_)
    · -- 37
      refine E_mono ?_ (adv_tail (G := G) e1 hx e2 e3)
      rintro v M ⟨hv, μ2, hM, g1, g2, g3⟩
      exact ⟨hv, μ2, hM, g1, fun j j6 => (g2 j j6).trans (e4 j j6), e5.tr g3⟩
    · -- 11
      exfalso; omega
  | cons c r ih =>
    intro a μ' e1 e2 e3 e4 e5
    have k1 := e1.1
    have k2 := e1.2.1
    have ka := txt_at e1 e2
    have kc := hx c (by rw [e2]; simp)
    have kl : (t.length : Int) = a.length + 1 + r.length := by rw [e2]; simp; omega
    have f0 : c ≠ 32 → skipB (c :: r) = c :: r := fun h => by simp [skipB, List.dropWhile_cons, h]
    have f1 : c = 32 → skipB (c :: r) = skipB r := fun h => by simp [skipB, List.dropWhile_cons, h]
    refine E_aload_n dX9_advance_0 rfl ?_
    refine GX9_25 sk_145 dX9_advance_1 ?_
    refine E_aload_n dX9_advance_4 rfl ?_
    refine GX9_15 sk_145 dX9_advance_5 ?_
    refine E_icmp_ge 37 dX9_advance_8 (fun h8 => ?_) (fun h8 => ?_)
    · -- 37
      first | (exfalso; omega) | (rw [f0 (by omega)]; refine E_mono ?_ (adv_tail (G := G) e1 hx e2 e3); rintro v M ⟨hv, μ2, hM, g1, g2, g3⟩; exact ⟨hv, μ2, hM, g1, fun j j6 => (g2 j j6).trans (e4 j j6), e5.tr g3⟩)
    · -- 11
      refine E_aload_n dX9_advance_11 rfl ?_
      refine E_aload_n dX9_advance_12 rfl ?_
      refine GX9_25 sk_145 dX9_advance_13 ?_
      rw [e3]
      refine E_callVR dX9_advance_16 lkX9_73 (Hp_get sk_145) (c_byteAt (p := (a.length : Int)) (by omega)) ?_
      rw [ka.1]
      refine E_bipush dX9_advance_19 ?_
      refine E_icmp_ne 37 dX9_advance_21 (fun h21 => ?_) (fun h21 => ?_)
      · -- 37
        first | (exfalso; omega) | (rw [f0 (by omega)]; refine E_mono ?_ (adv_tail (G := G) e1 hx e2 e3); rintro v M ⟨hv, μ2, hM, g1, g2, g3⟩; exact ⟨hv, μ2, hM, g1, fun j j6 => (g2 j j6).trans (e4 j j6), e5.tr g3⟩)
      · -- 24
        refine E_aload_n dX9_advance_24 rfl ?_
        refine E_dup dX9_advance_25 ?_
        refine GX9_25 sk_145 dX9_advance_26 ?_
        rw [e3]
        refine E_iconst dX9_advance_29 ?_
        refine E_iadd dX9_advance_30 ?_
        refine PX9_25 sk_145 dX9_advance_31 ?_
        refine E_goto 0 dX9_advance_34 ?_
        rw [f1 (by omega)]
        exact ih (a ++ [c]) _ ⟨by rw [up_r, if_neg (by omega)]; exact k1, k2, e1.2.2.kept (up_ne 146 (by decide))⟩ (by rw [e2]; simp) (by rw [up_r, if_pos rfl]; simp) (fun j j6 => by rw [up_r, if_neg (by omega)]; exact e4 j j6) (e5.up (by omega) (by omega))
theorem c_adv0 {r a : List Int} (hT : RepT μ t) (hx : txOk t) (ht : t = a ++ r) (ha : μ 145 2 = a.length) : Ctr G mX9_advance [.ref 145] (Hp μ) (V0 (fun μ' => TkS μ' t (skipB r) ∧ (∀ j : Int, 6 ≤ j → μ' 145 j = μ 145 j) ∧ Off 145 1 μ μ')) := by
  refine Ctr.of ?_
  exact adv_loop (μ := μ) hx r a μ hT ht ha (fun _ _ => rfl) Off.rf
theorem c_advance {r : List Int} (hS : TkS μ t r) (hx : txOk t) : Ctr G mX9_advance [.ref 145] (Hp μ) (V0 (fun μ' => TkS μ' t (nxt r) ∧ (∀ j : Int, 6 ≤ j → μ' 145 j = μ 145 j) ∧ Off 145 1 μ μ')) := by
  obtain ⟨k1, k2, k3, k4, k5, a, k6⟩ := hS
  obtain ⟨b, hb⟩ := tkR_suf r
  refine c_adv0 k1 hx (a := a ++ b) (r := tkR r) (by rw [List.append_assoc, ← hb]; exact k6) ?_
  rw [k4, k6]
  have := congrArg List.length hb
  simp at this
  simp; omega
theorem c_isNumber {r : List Int} {lo hi : Int} (hS : TkS μ t r) (hx : txOk r) (hl : -1000 ≤ lo ∧ lo ≤ 1000) (hh : -1000 ≤ hi ∧ hi ≤ 1000) : Ctr G mX9_isNumber [.ref 145, vi lo, vi hi] (Hp μ) (R1 (vi (if tkK r = 256 ∧ lo ≤ tkV r ∧ tkV r ≤ hi then 1 else 0)) (Hp μ)) := by
  refine Ctr.of ?_
  obtain ⟨k1, k2, k3, k4, k5, k6⟩ := hS
  have kr := tkK_rng hx
  have kv := tkV_rng r
  by_cases hk : tkK r = 256
  · have k7 := k5 hk
    refine E_aload_n dX9_isNumber_0 rfl ?_
    refine GX9_40 sk_145 dX9_isNumber_1 ?_
    refine E_sipush dX9_isNumber_4 ?_
    refine E_icmp_ne 30 dX9_isNumber_7 (fun h7 => ?_) (fun h7 => ?_)
    · -- 30
      refine E_iconst dX9_isNumber_30 ?_
      refine E_zret dX9_isNumber_31 ?_ (by first | exact Or.inl rfl | exact Or.inr rfl | omega)
      first | (rw [if_pos (by omega)]; exact ⟨rfl, rfl⟩) | (rw [if_neg (by omega)]; exact ⟨rfl, rfl⟩)
    · -- 10
      refine E_aload_n dX9_isNumber_10 rfl ?_
      refine GX9_60 sk_145 dX9_isNumber_11 ?_
      refine E_iload_n dX9_isNumber_14 rfl ?_
      refine E_icmp_lt 30 dX9_isNumber_15 (fun h15 => ?_) (fun h15 => ?_)
      · -- 30
        refine E_iconst dX9_isNumber_30 ?_
        refine E_zret dX9_isNumber_31 ?_ (by first | exact Or.inl rfl | exact Or.inr rfl | omega)
        first | (rw [if_pos (by omega)]; exact ⟨rfl, rfl⟩) | (rw [if_neg (by omega)]; exact ⟨rfl, rfl⟩)
      · -- 18
        refine E_aload_n dX9_isNumber_18 rfl ?_
        refine GX9_60 sk_145 dX9_isNumber_19 ?_
        refine E_iload_n dX9_isNumber_22 rfl ?_
        refine E_icmp_gt 30 dX9_isNumber_23 (fun h23 => ?_) (fun h23 => ?_)
        · -- 30
          refine E_iconst dX9_isNumber_30 ?_
          refine E_zret dX9_isNumber_31 ?_ (by first | exact Or.inl rfl | exact Or.inr rfl | omega)
          first | (rw [if_pos (by omega)]; exact ⟨rfl, rfl⟩) | (rw [if_neg (by omega)]; exact ⟨rfl, rfl⟩)
        · -- 26
          refine E_iconst dX9_isNumber_26 ?_
          refine E_goto 31 dX9_isNumber_27 ?_
          refine E_zret dX9_isNumber_31 ?_ (by first | exact Or.inl rfl | exact Or.inr rfl | omega)
          first | (rw [if_pos (by omega)]; exact ⟨rfl, rfl⟩) | (rw [if_neg (by omega)]; exact ⟨rfl, rfl⟩)
  · skip
    refine E_aload_n dX9_isNumber_0 rfl ?_
    refine GX9_40 sk_145 dX9_isNumber_1 ?_
    refine E_sipush dX9_isNumber_4 ?_
    refine E_icmp_ne 30 dX9_isNumber_7 (fun h7 => ?_) (fun h7 => ?_)
    · -- 30
      refine E_iconst dX9_isNumber_30 ?_
      refine E_zret dX9_isNumber_31 ?_ (by first | exact Or.inl rfl | exact Or.inr rfl | omega)
      rw [if_neg (by omega)]; exact ⟨rfl, rfl⟩
    · -- 10
      exfalso; omega
/-! the grammar -/
abbrev PS : Type := Int × Int × Int × Sp
/-- items, pairs, crooked pairs, draft -/
def kB (r : List Int) : Int := if tkK r = 111 then 0 else 1
def inN (r : List Int) (lo hi : Int) : Prop := tkK r = 256 ∧ lo ≤ tkV r ∧ tkV r ≤ hi
def mostA (cr : Int) : Int := if cr < 6 then 30 else 1
def rB (r : List Int) : List Int := if tkK (nxt (nxt r)) = 45 then nxt (nxt (nxt r)) else nxt (nxt r)
def sB (r : List Int) : Int := if tkK (nxt (nxt r)) = 45 then -1 else 1
def okB (r : List Int) : Prop := inN (nxt r) (kB r) 4
def okP1 (r : List Int) (cr : Int) : Prop := inN (nxt r) 1 (mostA cr)
def okP2 (r : List Int) : Prop := inN (rB r) 0 99 ∧ Int.gcd (tkV (nxt r)) (tkV (rB r)) = 1
theorem suf_ok {t r a : List Int} (h : t = a ++ r) (hx : txOk t) : txOk r := fun c hc => hx c (by rw [h]; simp [hc])
theorem TkS.ok {r : List Int} (h : TkS μ t r) (hx : txOk t) : txOk r := by
  obtain ⟨-, -, -, -, -, a, ha⟩ := h
  exact suf_ok ha hx
theorem c_readBase {r : List Int} (hf : isSp f) (hfd : f + 3 ≤ 145 ∨ 147 ≤ f) (hS : TkS μ t r) (hx : txOk t) (hk : tkK r = 111 ∨ tkK r = 110) : Ctr G mX9_readBase [.ref 145, .ref f] (Hp μ) (fun v M' => ∃ μ', M' = Hp μ' ∧ (∀ j : Int, 6 ≤ j → μ' 145 j = μ 145 j) ∧ (∀ q : Nat, q ≠ 145 → (q < f ∨ f + 3 ≤ q) → μ' q = μ q) ∧ ((okB r ∧ v = some (vi 1) ∧ TkS μ' t (nxt (nxt r)) ∧ RepD μ' f (kB r, tkV (nxt r), 0, [])) ∨ (¬ okB r ∧ v = some (vi 0) ∧ TkS μ' t (nxt r)))) := by
  refine Ctr.of ?_
  have ks := hS.2.1
  have kr := tkK_rng (hS.ok hx)
  have kb : kB r = 0 ∨ kB r = 1 := by unfold kB; split <;> simp
  have kb0 : tkK r = 111 → kB r = 0 := fun h => if_pos h
  have kb1 : tkK r ≠ 111 → kB r = 1 := fun h => if_neg h
  have fin : E G mX9_readBase (Zq G mX9_readBase (fun v M' => ∃ μ', M' = Hp μ' ∧ (∀ j : Int, 6 ≤ j → μ' 145 j = μ 145 j) ∧ (∀ q : Nat, q ≠ 145 → (q < f ∨ f + 3 ≤ q) → μ' q = μ q) ∧ ((okB r ∧ v = some (vi 1) ∧ TkS μ' t (nxt (nxt r)) ∧ RepD μ' f (kB r, tkV (nxt r), 0, [])) ∨ (¬ okB r ∧ v = some (vi 0) ∧ TkS μ' t (nxt r))))) 0 0 15 [.ref 145, .ref f, vi (kB r)] [] (Hp μ) := by
    refine E_aload_n dX9_readBase_15 rfl ?_
    refine E_callVV dX9_readBase_16 lkX9_37 (Hp_get sk_145) (c_advance hS hx) ?_
    rintro μ1 ⟨a1, a2, a3⟩
    have hnum := c_isNumber (G := G) (lo := kB r) (hi := 4) a1 (a1.ok hx) (by omega) (by omega)
    by_cases hok : okB r
    rotate_left
    · rw [if_neg (show ¬ (tkK (nxt r) = 256 ∧ kB r ≤ tkV (nxt r) ∧ tkV (nxt r) ≤ 4) from hok)] at hnum
      refine E_aload_n dX9_readBase_19 rfl ?_
      refine E_iload_n dX9_readBase_20 rfl ?_
      refine E_iconst dX9_readBase_21 ?_
      refine E_callVR dX9_readBase_22 lkX9_56 (Hp_get sk_145) hnum ?_
      refine E_if_ne 30 dX9_readBase_25 (fun q => absurd rfl q) (fun q => ?_)
      refine E_iconst dX9_readBase_28 ?_
      exact E_zret dX9_readBase_29 ⟨_, rfl, a2, fun q q1 q2 => a3 q (by omega), Or.inr ⟨hok, rfl, a1⟩⟩ (Or.inl rfl)
    rw [if_pos (show tkK (nxt r) = 256 ∧ kB r ≤ tkV (nxt r) ∧ tkV (nxt r) ≤ 4 from hok)] at hnum
    have kv := a1.2.2.2.2.1 hok.1
    refine E_aload_n dX9_readBase_19 rfl ?_
    refine E_iload_n dX9_readBase_20 rfl ?_
    refine E_iconst dX9_readBase_21 ?_
    refine E_callVR dX9_readBase_22 lkX9_56 (Hp_get sk_145) (hnum) ?_
    refine E_if_ne 30 dX9_readBase_25 (fun h25 => ?_) (fun h25 => ?_)
    · -- 30
      refine E_aload_n dX9_readBase_30 rfl ?_
      refine E_iload_n dX9_readBase_31 rfl ?_
      refine E_aload_n dX9_readBase_32 rfl ?_
      refine GX9_60 sk_145 dX9_readBase_33 ?_
      refine E_iconst dX9_readBase_36 ?_
      rw [kv]
      refine E_callVV dX9_readBase_37 lkX9_19 (Hp_get hf.1) (c_start hf) ?_
      rintro μ2 ⟨b1, b2⟩
      have b3 : TkS μ2 t (nxt r) := a1.kept (fun j j1 j5 => by rw [b2 145 (by omega)]) (b2 146 (by omega))
      refine E_aload_n dX9_readBase_40 rfl ?_
      refine E_callVV dX9_readBase_41 lkX9_37 (Hp_get sk_145) (c_advance b3 hx) ?_
      rintro μ3 ⟨d1, d2, d3⟩
      refine E_iconst dX9_readBase_44 ?_
      refine E_zret dX9_readBase_45 ?_ (by first | exact Or.inl rfl | exact Or.inr rfl | omega)
      refine ⟨_, rfl, fun j j6 => ?_, fun q q1 q2 => ?_, Or.inl ⟨hok, rfl, d1, ?_⟩⟩
      · rw [d2 j j6, b2 145 (by omega), a2 j j6]
      · rw [d3 q (by omega), b2 q (by omega), a3 q (by omega)]
      · exact b1.keptD (d3 f (by omega)) (d3 (f + 1) (by omega)) (d3 (f + 2) (by omega))
    · -- 28
      exact absurd h25 (by decide)
  refine E_aload_n dX9_readBase_0 rfl ?_
  refine GX9_40 sk_145 dX9_readBase_1 ?_
  refine E_bipush dX9_readBase_4 ?_
  refine E_icmp_ne 13 dX9_readBase_6 (fun h6 => ?_) (fun h6 => ?_)
  · -- 13
    refine E_iconst dX9_readBase_13 ?_
    refine E_istore_n dX9_readBase_14 ?_
    first | (have := fin; rw [kb0 (by omega)] at this; rw [kb0 (by omega)]; exact this) | (have := fin; rw [kb1 (by omega)] at this; rw [kb1 (by omega)]; exact this)
  · -- 9
    refine E_iconst dX9_readBase_9 ?_
    refine E_goto 14 dX9_readBase_10 ?_
    refine E_istore_n dX9_readBase_14 ?_
    first | (have := fin; rw [kb0 (by omega)] at this; rw [kb0 (by omega)]; exact this) | (have := fin; rw [kb1 (by omega)] at this; rw [kb1 (by omega)]; exact this)
/-- what a read pair leaves -/
def PairQ (μ : Mem) (t r : List Int) (f : Nat) (d : Sp) (pr cr : Int) (μ' : Mem) (v : Option Value) : Prop :=
  (okP1 r cr ∧ okP2 r ∧ v = some (vi 1) ∧ TkS μ' t (nxt (rB r)) ∧ RepD μ' f (put d (tkV (nxt r)) (sB r * tkV (rB r))) ∧ μ' 145 7 = pr + 1 ∧ μ' 145 8 = (if tkV (nxt r) = 1 then cr else cr + 1)) ∨
  (okP1 r cr ∧ ¬ okP2 r ∧ v = some (vi 0) ∧ TkS μ' t (rB r)) ∨ (¬ okP1 r cr ∧ v = some (vi 0) ∧ TkS μ' t (nxt r))
def PairR (μ : Mem) (t r : List Int) (f : Nat) (d : Sp) (pr cr : Int) : QT := fun v M' => ∃ μ', M' = Hp μ' ∧ μ' 145 6 = μ 145 6 ∧ (∀ q : Nat, q ≠ 145 → (q < f ∨ f + 3 ≤ q) → μ' q = μ q) ∧ PairQ μ t r f d pr cr μ' v
theorem pair_B {r : List Int} {d : Sp} {pr cr a : Int} {μ1 : Mem} (w2 : Int) (hf : isSp f) (hfd : f + 3 ≤ 145 ∨ 147 ≤ f) (hx : txOk t) (hd : RepD μ f d) (hdl : ∀ y ∈ d.2.2.2, smF y) (hpr : 0 ≤ pr ∧ pr ≤ 100) (hcr : 0 ≤ cr ∧ cr ≤ 100) (h7 : μ 145 7 = pr) (h8 : μ 145 8 = cr) (ho : okP1 r cr) (hpa : tkV (nxt r) = a) (ha : 1 ≤ a ∧ a ≤ 30)
    (hS : TkS μ1 t (rB r)) (a2 : ∀ j : Int, 6 ≤ j → μ1 145 j = μ 145 j) (a3 : Off 145 1 μ μ1) :
    E G mX9_readPair (Zq G mX9_readPair (PairR μ t r f d pr cr)) 0 0 59 [.ref 145, .ref f, vi w2, vi a, vi (sB r)] [] (Hp μ1) := by
  have hnum := c_isNumber (G := G) (lo := 0) (hi := 99) hS (hS.ok hx) (by omega) (by omega)
  have kv := tkV_rng (rB r)
  have ks : sB r = 1 ∨ sB r = -1 := by unfold sB; split <;> simp
  by_cases hn : inN (rB r) 0 99
  · rw [if_pos (show tkK (rB r) = 256 ∧ 0 ≤ tkV (rB r) ∧ tkV (rB r) ≤ 99 from hn)] at hnum
    have kv2 := hS.2.2.2.2.1 hn.1
    have kv3 := hn.2
    have kgl := Int.gcd_le_left (tkV (rB r)) (show 0 < a by omega)
    have kmul : -99 ≤ sB r * tkV (rB r) ∧ sB r * tkV (rB r) ≤ 99 := by rcases ks with h | h <;> rw [h] <;> omega
    have hd1 : RepD μ1 f d := hd.keptD (a3 f (by omega)) (a3 (f + 1) (by omega)) (a3 (f + 2) (by omega))
    refine E_aload_n dX9_readPair_59 rfl ?_
    refine E_iconst dX9_readPair_60 ?_
    refine E_bipush dX9_readPair_61 ?_
    refine E_callVR dX9_readPair_63 lkX9_56 (Hp_get sk_145) (hnum) ?_
    refine E_if_eq 84 dX9_readPair_66 (fun h66 => ?_) (fun h66 => ?_)
    · -- 84
      first | (exfalso; omega) | (refine E_iconst dX9_readPair_84 ?_; exact E_zret dX9_readPair_85 ⟨_, rfl, a2 6 (by omega), fun q q1 q2 => a3 q (by omega), Or.inr (Or.inl ⟨ho, fun q => by have := q.2; rw [hpa] at this; omega, rfl, hS⟩)⟩ (Or.inl rfl))
    · -- 69
      refine E_iload_n dX9_readPair_69 rfl ?_
      refine E_i2l dX9_readPair_70 ?_
      refine E_aload_n dX9_readPair_71 rfl ?_
      refine GX9_60 sk_145 dX9_readPair_72 ?_
      rw [kv2]
      refine E_i2l dX9_readPair_75 ?_
      refine E_callSR dX9_readPair_76 lkX9_63 (c_gcd (x := a) (z := tkV (rB r)) (by omega) (by omega)) ?_
      refine E_lconst1 dX9_readPair_79 ?_
      refine E_lcmp_eq 86 dX9_readPair_80 dX9_readPair_81 (fun h80 => ?_) (fun h80 => ?_)
      · -- 86
        refine E_aload_n dX9_readPair_86 rfl ?_
        refine E_iload_n dX9_readPair_87 rfl ?_
        refine E_iload dX9_readPair_88 rfl ?_
        refine E_aload_n dX9_readPair_90 rfl ?_
        refine GX9_60 sk_145 dX9_readPair_91 ?_
        rw [kv2]
        refine E_imul dX9_readPair_94 ?_
        refine E_callVV dX9_readPair_95 lkX9_69 (Hp_get hf.1) (c_put (a := a) (b := sB r * tkV (rB r)) hf hd1 (by omega) (by omega) hdl) ?_
        rintro μ2 ⟨b1, b2⟩
        have b145 : μ2 145 = μ1 145 := b2 145 (by omega)
        have b146 : μ2 146 = μ1 146 := b2 146 (by omega)
        have c7 : μ2 145 7 = pr := by rw [b145, a2 7 (by omega)]; exact h7
        have c8 : μ2 145 8 = cr := by rw [b145, a2 8 (by omega)]; exact h8
        refine E_aload_n dX9_readPair_98 rfl ?_
        refine E_dup dX9_readPair_99 ?_
        refine GX9_31 sk_145 dX9_readPair_100 ?_
        rw [c7]
        refine E_iconst dX9_readPair_103 ?_
        refine E_iadd dX9_readPair_104 ?_
        refine PX9_31 sk_145 dX9_readPair_105 ?_
        refine E_aload_n dX9_readPair_108 rfl ?_
        refine E_dup dX9_readPair_109 ?_
        refine GX9_34 sk_145 dX9_readPair_110 ?_
        rw [up_r, if_neg (by omega), c8]
        refine E_iload_n dX9_readPair_113 rfl ?_
        refine E_iconst dX9_readPair_114 ?_
        refine E_icmp_ne 122 dX9_readPair_115 (fun h115 => ?_) (fun h115 => ?_)
        · -- 122
          refine E_iconst dX9_readPair_122 ?_
          refine E_iadd dX9_readPair_123 ?_
          refine PX9_34 sk_145 dX9_readPair_124 ?_
          obtain ⟨cr', hcr', hmem⟩ : ∃ cr' : Int, cr' = (if tkV (nxt r) = 1 then cr else cr + 1) ∧ True := ⟨_, rfl, trivial⟩
          first | rw [show cr + 0 = cr' by rw [hcr', if_pos (by omega)]; omega] | rw [show cr + 1 = cr' by rw [hcr', if_neg (by omega)]]
          have hS2 : TkS (up (up μ2 145 7 (pr + 1)) 145 8 cr') t (rB r) := hS.kept (fun j j1 j5 => by rw [up_r, if_neg (by omega), up_r, if_neg (by omega), b145]) (by rw [up_ne 146 (by decide), up_ne 146 (by decide)]; exact b146)
          refine E_aload_n dX9_readPair_127 rfl ?_
          refine E_callVV dX9_readPair_128 lkX9_37 (Hp_get sk_145) (c_advance hS2 hx) ?_
          rintro μ3 ⟨d1, d2, d3⟩
          refine E_iconst dX9_readPair_131 ?_
          refine E_zret dX9_readPair_132 ?_ (by first | exact Or.inl rfl | exact Or.inr rfl | omega)
          refine ⟨_, rfl, ?_, fun q q1 q2 => ?_, Or.inl ⟨ho, ⟨hn, by rw [hpa]; omega⟩, rfl, d1, ?_, ?_, ?_⟩⟩
          · rw [d2 6 (by omega), up_r, if_neg (by omega), up_r, if_neg (by omega), b145, a2 6 (by omega)]
          · rw [d3 q (by omega), up_ne q (by omega), up_ne q (by omega), b2 q (by omega), a3 q (by omega)]
          · rw [hpa]; exact b1.keptD (by rw [d3 f (by omega), up_ne f (by omega), up_ne f (by omega)]) (by rw [d3 (f + 1) (by omega), up_ne (f + 1) (by omega), up_ne (f + 1) (by omega)]) (by rw [d3 (f + 2) (by omega), up_ne (f + 2) (by omega), up_ne (f + 2) (by omega)])
          · rw [d2 7 (by omega), up_r, if_neg (by omega), up_r, if_pos rfl]
          · rw [d2 8 (by omega), up_r, if_pos rfl]; exact hcr'
        · -- 118
          refine E_iconst dX9_readPair_118 ?_
          refine E_goto 123 dX9_readPair_119 ?_
          refine E_iadd dX9_readPair_123 ?_
          refine PX9_34 sk_145 dX9_readPair_124 ?_
          obtain ⟨cr', hcr', hmem⟩ : ∃ cr' : Int, cr' = (if tkV (nxt r) = 1 then cr else cr + 1) ∧ True := ⟨_, rfl, trivial⟩
          first | rw [show cr + 0 = cr' by rw [hcr', if_pos (by omega)]; omega] | rw [show cr + 1 = cr' by rw [hcr', if_neg (by omega)]]
          have hS2 : TkS (up (up μ2 145 7 (pr + 1)) 145 8 cr') t (rB r) := hS.kept (fun j j1 j5 => by rw [up_r, if_neg (by omega), up_r, if_neg (by omega), b145]) (by rw [up_ne 146 (by decide), up_ne 146 (by decide)]; exact b146)
          refine E_aload_n dX9_readPair_127 rfl ?_
          refine E_callVV dX9_readPair_128 lkX9_37 (Hp_get sk_145) (c_advance hS2 hx) ?_
          rintro μ3 ⟨d1, d2, d3⟩
          refine E_iconst dX9_readPair_131 ?_
          refine E_zret dX9_readPair_132 ?_ (by first | exact Or.inl rfl | exact Or.inr rfl | omega)
          refine ⟨_, rfl, ?_, fun q q1 q2 => ?_, Or.inl ⟨ho, ⟨hn, by rw [hpa]; omega⟩, rfl, d1, ?_, ?_, ?_⟩⟩
          · rw [d2 6 (by omega), up_r, if_neg (by omega), up_r, if_neg (by omega), b145, a2 6 (by omega)]
          · rw [d3 q (by omega), up_ne q (by omega), up_ne q (by omega), b2 q (by omega), a3 q (by omega)]
          · rw [hpa]; exact b1.keptD (by rw [d3 f (by omega), up_ne f (by omega), up_ne f (by omega)]) (by rw [d3 (f + 1) (by omega), up_ne (f + 1) (by omega), up_ne (f + 1) (by omega)]) (by rw [d3 (f + 2) (by omega), up_ne (f + 2) (by omega), up_ne (f + 2) (by omega)])
          · rw [d2 7 (by omega), up_r, if_neg (by omega), up_r, if_pos rfl]
          · rw [d2 8 (by omega), up_r, if_pos rfl]; exact hcr'
      · -- 84
        first | (exfalso; omega) | (refine E_iconst dX9_readPair_84 ?_; exact E_zret dX9_readPair_85 ⟨_, rfl, a2 6 (by omega), fun q q1 q2 => a3 q (by omega), Or.inr (Or.inl ⟨ho, fun q => by have := q.2; rw [hpa] at this; omega, rfl, hS⟩)⟩ (Or.inl rfl))
  · rw [if_neg (show ¬ (tkK (rB r) = 256 ∧ 0 ≤ tkV (rB r) ∧ tkV (rB r) ≤ 99) from hn)] at hnum
    refine E_aload_n dX9_readPair_59 rfl ?_
    refine E_iconst dX9_readPair_60 ?_
    refine E_bipush dX9_readPair_61 ?_
    refine E_callVR dX9_readPair_63 lkX9_56 (Hp_get sk_145) (hnum) ?_
    refine E_if_eq 84 dX9_readPair_66 (fun h66 => ?_) (fun h66 => ?_)
    · -- 84
      refine E_iconst dX9_readPair_84 ?_
      refine E_zret dX9_readPair_85 ?_ (by first | exact Or.inl rfl | exact Or.inr rfl | omega)
      exact ⟨_, rfl, a2 6 (by omega), fun q q1 q2 => a3 q (by omega), Or.inr (Or.inl ⟨ho, fun q => hn q.1, rfl, hS⟩)⟩
    · -- 69
      exact absurd rfl h66
theorem c_readPair {r : List Int} {d : Sp} {pr cr : Int} (hf : isSp f) (hfd : f + 3 ≤ 145 ∨ 147 ≤ f) (hx : txOk t) (hS : TkS μ t r) (hd : RepD μ f d) (hdl : ∀ y ∈ d.2.2.2, smF y) (hpr : 0 ≤ pr ∧ pr ≤ 100) (hcr : 0 ≤ cr ∧ cr ≤ 100) (k7 : μ 145 7 = pr) (k8 : μ 145 8 = cr) : Ctr G mX9_readPair [.ref 145, .ref f] (Hp μ) (PairR μ t r f d pr cr) := by
  refine Ctr.of ?_
  have km : mostA cr = 30 ∨ mostA cr = 1 := by unfold mostA; split <;> simp
  have km0 : cr < 6 → mostA cr = 30 := fun h => if_pos h
  have km1 : ¬ cr < 6 → mostA cr = 1 := fun h => if_neg h
  have fin : ∀ μ1 : Mem, TkS μ1 t (nxt r) → (∀ j : Int, 6 ≤ j → μ1 145 j = μ 145 j) → Off 145 1 μ μ1 → E G mX9_readPair (Zq G mX9_readPair (PairR μ t r f d pr cr)) 0 0 20 [.ref 145, .ref f, vi (mostA cr), .retAddr 0, .retAddr 0] [] (Hp μ1) := by
    intro μ1 a1 a2 a3
    have hnum := c_isNumber (G := G) (lo := 1) (hi := mostA cr) a1 (a1.ok hx) (by omega) (by omega)
    by_cases ho : okP1 r cr
    · rw [if_pos (show tkK (nxt r) = 256 ∧ 1 ≤ tkV (nxt r) ∧ tkV (nxt r) ≤ mostA cr from ho)] at hnum
      have kv := a1.2.2.2.2.1 ho.1
      have kv2 := ho.2
      refine E_aload_n dX9_readPair_20 rfl ?_
      refine E_iconst dX9_readPair_21 ?_
      refine E_iload_n dX9_readPair_22 rfl ?_
      refine E_callVR dX9_readPair_23 lkX9_56 (Hp_get sk_145) (hnum) ?_
      refine E_if_ne 31 dX9_readPair_26 (fun h26 => ?_) (fun h26 => ?_)
      · -- 31
        refine E_aload_n dX9_readPair_31 rfl ?_
        refine GX9_60 sk_145 dX9_readPair_32 ?_
        rw [kv]
        refine E_istore_n dX9_readPair_35 ?_
        refine E_aload_n dX9_readPair_36 rfl ?_
        refine E_callVV dX9_readPair_37 lkX9_37 (Hp_get sk_145) (c_advance a1 hx) ?_
        rintro μ2 ⟨b1, b2, b3⟩
        have kt := b1.2.1
        have kr := tkK_rng (b1.ok hx)
        refine E_iconst dX9_readPair_40 ?_
        refine E_istore dX9_readPair_41 ?_
        refine E_aload_n dX9_readPair_43 rfl ?_
        refine GX9_40 sk_145 dX9_readPair_44 ?_
        refine E_bipush dX9_readPair_47 ?_
        refine E_icmp_ne 59 dX9_readPair_49 (fun h49 => ?_) (fun h49 => ?_)
        · -- 59
          first | (have e1 : rB r = nxt (nxt (nxt r)) := if_pos (by omega); have e2 : sB r = -1 := if_pos (by omega); rw [← e1] at d1; have := pair_B (G := G) (μ := μ) (mostA cr) hf hfd hx hd hdl hpr hcr k7 k8 ho rfl (by omega) d1 (fun j j6 => by rw [d2 j j6, b2 j j6, a2 j j6]) ((a3.tr b3).tr d3); rw [e2] at this; exact this) | (have e1 : rB r = nxt (nxt r) := if_neg (by omega); have e2 : sB r = 1 := if_neg (by omega); rw [← e1] at b1; have := pair_B (G := G) (μ := μ) (mostA cr) hf hfd hx hd hdl hpr hcr k7 k8 ho rfl (by omega) b1 (fun j j6 => by rw [b2 j j6, a2 j j6]) (a3.tr b3); rw [e2] at this; exact this)
        · -- 52
          refine E_iconst dX9_readPair_52 ?_
          refine E_istore dX9_readPair_53 ?_
          refine E_aload_n dX9_readPair_55 rfl ?_
          refine E_callVV dX9_readPair_56 lkX9_37 (Hp_get sk_145) (c_advance b1 hx) ?_
          rintro μ3 ⟨d1, d2, d3⟩
          first | (have e1 : rB r = nxt (nxt (nxt r)) := if_pos (by omega); have e2 : sB r = -1 := if_pos (by omega); rw [← e1] at d1; have := pair_B (G := G) (μ := μ) (mostA cr) hf hfd hx hd hdl hpr hcr k7 k8 ho rfl (by omega) d1 (fun j j6 => by rw [d2 j j6, b2 j j6, a2 j j6]) ((a3.tr b3).tr d3); rw [e2] at this; exact this) | (have e1 : rB r = nxt (nxt r) := if_neg (by omega); have e2 : sB r = 1 := if_neg (by omega); rw [← e1] at b1; have := pair_B (G := G) (μ := μ) (mostA cr) hf hfd hx hd hdl hpr hcr k7 k8 ho rfl (by omega) b1 (fun j j6 => by rw [b2 j j6, a2 j j6]) (a3.tr b3); rw [e2] at this; exact this)
      · -- 29
        exact absurd h26 (by decide)
    · rw [if_neg (show ¬ (tkK (nxt r) = 256 ∧ 1 ≤ tkV (nxt r) ∧ tkV (nxt r) ≤ mostA cr) from ho)] at hnum
      refine E_aload_n dX9_readPair_20 rfl ?_
      refine E_iconst dX9_readPair_21 ?_
      refine E_iload_n dX9_readPair_22 rfl ?_
      refine E_callVR dX9_readPair_23 lkX9_56 (Hp_get sk_145) (hnum) ?_
      refine E_if_ne 31 dX9_readPair_26 (fun h26 => ?_) (fun h26 => ?_)
      · -- 31
        exact absurd rfl h26
      · -- 29
        refine E_iconst dX9_readPair_29 ?_
        refine E_zret dX9_readPair_30 ?_ (by first | exact Or.inl rfl | exact Or.inr rfl | omega)
        exact ⟨_, rfl, a2 6 (by omega), fun q q1 q2 => a3 q (by omega), Or.inr (Or.inr ⟨ho, rfl, a1⟩)⟩
  refine E_aload_n dX9_readPair_0 rfl ?_
  refine E_callVV dX9_readPair_1 lkX9_37 (Hp_get sk_145) (c_advance hS hx) ?_
  rintro μ1 ⟨a1, a2, a3⟩
  have f1 := fin μ1 a1 a2 a3
  have c8 : μ1 145 8 = cr := by rw [a2 8 (by omega)]; exact k8
  refine E_aload_n dX9_readPair_4 rfl ?_
  refine GX9_34 sk_145 dX9_readPair_5 ?_
  refine E_bipush dX9_readPair_8 ?_
  refine E_icmp_ge 18 dX9_readPair_10 (fun h10 => ?_) (fun h10 => ?_)
  · -- 18
    refine E_iconst dX9_readPair_18 ?_
    refine E_istore_n dX9_readPair_19 ?_
    first | (rw [km0 (by omega)] at f1; exact f1) | (rw [km1 (by omega)] at f1; exact f1)
  · -- 13
    refine E_bipush dX9_readPair_13 ?_
    refine E_goto 19 dX9_readPair_15 ?_
    refine E_istore_n dX9_readPair_19 ?_
    first | (rw [km0 (by omega)] at f1; exact f1) | (rw [km1 (by omega)] at f1; exact f1)
noncomputable def cif {α : Type} (p : Prop) (a b : α) : α := @ite α p (Classical.propDecidable p) a b
theorem cif_pos {α : Type} {p : Prop} {a b : α} (h : p) : cif p a b = a := by unfold cif; rw [if_pos h]
theorem cif_neg {α : Type} {p : Prop} {a b : α} (h : ¬ p) : cif p a b = b := by unfold cif; rw [if_neg h]
noncomputable def finS (r : List Int) (s : PS) : Bool × List Int × PS := cif (tkK r = 59) (true, nxt r, (s.1 + 1, s.2.1, s.2.2.1, s.2.2.2)) (false, r, s)
noncomputable def itemS (r : List Int) (s : PS) : Bool × List Int × PS :=
  cif (tkK r = 111 ∨ tkK r = 110)
    (cif (s.1 = 0) (cif (okB r) (finS (nxt (nxt r)) (s.1, s.2.1, s.2.2.1, (kB r, tkV (nxt r), 0, []))) (false, nxt r, s)) (false, r, s))
    (cif (tkK r = 102 ∧ s.2.1 < 8) (cif (okP1 r s.2.2.1) (cif (okP2 r) (finS (nxt (rB r)) (s.1, s.2.1 + 1, (if tkV (nxt r) = 1 then s.2.2.1 else s.2.2.1 + 1), put s.2.2.2 (tkV (nxt r)) (sB r * tkV (rB r)))) (false, rB r, s)) (false, nxt r, s)) (false, r, s))
def ItS (μ : Mem) (t r : List Int) (f : Nat) (s : PS) : Prop := TkS μ t r ∧ μ 145 6 = s.1 ∧ μ 145 7 = s.2.1 ∧ μ 145 8 = s.2.2.1 ∧ RepD μ f s.2.2.2 ∧ (∀ y ∈ s.2.2.2.2.2.2, smF y) ∧ 0 ≤ s.1 ∧ s.1 ≤ 100 ∧ 0 ≤ s.2.1 ∧ s.2.1 ≤ 99 ∧ 0 ≤ s.2.2.1 ∧ s.2.2.1 ≤ 99
def psOk (s : PS) : Prop := (∀ y ∈ s.2.2.2.2.2.2, smF y) ∧ 0 ≤ s.1 ∧ s.1 ≤ 100 ∧ 0 ≤ s.2.1 ∧ s.2.1 ≤ 8 ∧ 0 ≤ s.2.2.1 ∧ s.2.2.1 ≤ s.2.1
/-- the end of an item -/
theorem item_fin {r r' : List Int} {s : PS} {μ1 : Mem} (w2 : Int) (hx : txOk t) (hfd : f + 3 ≤ 145 ∨ 147 ≤ f) (hw : w2 = 1) (hS : TkS μ1 t r') (k6 : μ1 145 6 = s.1) (k7 : μ1 145 7 = s.2.1) (k8 : μ1 145 8 = s.2.2.1) (hD : RepD μ1 f s.2.2.2) (hs0 : 0 ≤ s.1 ∧ s.1 ≤ 100) (ho : ∀ q : Nat, q ≠ 145 → (q < f ∨ f + 3 ≤ q) → μ1 q = μ q) :
    E G mX9_readItem (Zq G mX9_readItem (fun v M' => ∃ μ', M' = Hp μ' ∧ (∀ q : Nat, q ≠ 145 → (q < f ∨ f + 3 ≤ q) → μ' q = μ q) ∧ v = some (vi (if (finS r' s).1 = true then 1 else 0)) ∧ TkS μ' t (finS r' s).2.1 ∧ ((finS r' s).1 = true → μ' 145 6 = (finS r' s).2.2.1 ∧ μ' 145 7 = (finS r' s).2.2.2.1 ∧ μ' 145 8 = (finS r' s).2.2.2.2.1 ∧ RepD μ' f (finS r' s).2.2.2.2.2))) 0 0 74 [.ref 145, .ref f, vi w2] [] (Hp μ1) := by
  subst hw
  have kt := hS.2.1
  have kr := tkK_rng (hS.ok hx)
  by_cases hk : tkK r' = 59
  · rw [show finS r' s = (true, nxt r', (s.1 + 1, s.2.1, s.2.2.1, s.2.2.2)) from cif_pos hk]
    refine E_iload_n dX9_readItem_74 rfl ?_
    refine E_if_eq 87 dX9_readItem_75 (fun h75 => ?_) (fun h75 => ?_)
    · -- 87
      exfalso; omega
    · -- 78
      refine E_aload_n dX9_readItem_78 rfl ?_
      refine GX9_40 sk_145 dX9_readItem_79 ?_
      refine E_bipush dX9_readItem_82 ?_
      refine E_icmp_eq 89 dX9_readItem_84 (fun h84 => ?_) (fun h84 => ?_)
      · -- 89
        refine E_aload_n dX9_readItem_89 rfl ?_
        refine E_dup dX9_readItem_90 ?_
        refine GX9_28 sk_145 dX9_readItem_91 ?_
        rw [k6]
        refine E_iconst dX9_readItem_94 ?_
        refine E_iadd dX9_readItem_95 ?_
        refine PX9_28 sk_145 dX9_readItem_96 ?_
        refine E_aload_n dX9_readItem_99 rfl ?_
        have hS2 : TkS (up μ1 145 6 (s.1 + 1)) t r' := hS.kept (fun j j1 j5 => by rw [up_r, if_neg (by omega)]) (up_ne 146 (by decide))
        refine E_callVV dX9_readItem_100 lkX9_37 (Hp_get sk_145) (c_advance hS2 hx) ?_
        rintro μ3 ⟨d1, d2, d3⟩
        refine E_iconst dX9_readItem_103 ?_
        refine E_zret dX9_readItem_104 ?_ (by first | exact Or.inl rfl | exact Or.inr rfl | omega)
        refine ⟨_, rfl, fun q q1 q2 => ?_, rfl, d1, fun _ => ⟨?_, ?_, ?_, ?_⟩⟩
        · rw [d3 q (by omega), up_ne q (by omega), ho q q1 q2]
        · rw [d2 6 (by omega), up_r, if_pos rfl]
        · rw [d2 7 (by omega), up_r, if_neg (by omega)]; exact k7
        · rw [d2 8 (by omega), up_r, if_neg (by omega)]; exact k8
        · exact hD.keptD (by rw [d3 f (by omega), up_ne f (by omega)]) (by rw [d3 (f + 1) (by omega), up_ne (f + 1) (by omega)]) (by rw [d3 (f + 2) (by omega), up_ne (f + 2) (by omega)])
      · -- 87
        exfalso; omega
  · rw [show finS r' s = (false, r', s) from cif_neg hk]
    refine E_iload_n dX9_readItem_74 rfl ?_
    refine E_if_eq 87 dX9_readItem_75 (fun h75 => ?_) (fun h75 => ?_)
    · -- 87
      refine E_iconst dX9_readItem_87 ?_
      refine E_zret dX9_readItem_88 ?_ (by first | exact Or.inl rfl | exact Or.inr rfl | omega)
      first | (exfalso; omega) | exact ⟨_, rfl, ho, rfl, hS, fun q => absurd q Bool.false_ne_true⟩
    · -- 78
      refine E_aload_n dX9_readItem_78 rfl ?_
      refine GX9_40 sk_145 dX9_readItem_79 ?_
      refine E_bipush dX9_readItem_82 ?_
      refine E_icmp_eq 89 dX9_readItem_84 (fun h84 => ?_) (fun h84 => ?_)
      · -- 89
        exfalso; omega
      · -- 87
        refine E_iconst dX9_readItem_87 ?_
        refine E_zret dX9_readItem_88 ?_ (by first | exact Or.inl rfl | exact Or.inr rfl | omega)
        first | (exfalso; omega) | exact ⟨_, rfl, ho, rfl, hS, fun q => absurd q Bool.false_ne_true⟩
def ItR (μ : Mem) (t : List Int) (f : Nat) (R : Bool × List Int × PS) : QT := fun v M' => ∃ μ', M' = Hp μ' ∧ (∀ q : Nat, q ≠ 145 → (q < f ∨ f + 3 ≤ q) → μ' q = μ q) ∧ v = some (vi (if R.1 = true then 1 else 0)) ∧ TkS μ' t R.2.1 ∧ (R.1 = true → μ' 145 6 = R.2.2.1 ∧ μ' 145 7 = R.2.2.2.1 ∧ μ' 145 8 = R.2.2.2.2.1 ∧ RepD μ' f R.2.2.2.2.2)
theorem item_no {r' : List Int} {s : PS} {μ1 : Mem} {R : Bool × List Int × PS} (hR : R = (false, r', s)) (hS : TkS μ1 t r') (ho : ∀ q : Nat, q ≠ 145 → (q < f ∨ f + 3 ≤ q) → μ1 q = μ q) :
    E G mX9_readItem (Zq G mX9_readItem (ItR μ t f R)) 0 0 74 [.ref 145, .ref f, vi 0] [] (Hp μ1) := by
  subst hR
  refine E_iload_n dX9_readItem_74 rfl ?_
  refine E_if_eq 87 dX9_readItem_75 (fun h75 => ?_) (fun h75 => ?_)
  · -- 87
    refine E_iconst dX9_readItem_87 ?_
    refine E_zret dX9_readItem_88 ?_ (by first | exact Or.inl rfl | exact Or.inr rfl | omega)
    exact ⟨_, rfl, ho, rfl, hS, fun q => absurd q Bool.false_ne_true⟩
  · -- 78
    exfalso; omega
theorem c_readItem {r : List Int} {s : PS} (hf : isSp f) (hfd : f + 3 ≤ 145 ∨ 147 ≤ f) (hx : txOk t) (hI : TkS μ t r ∧ μ 145 6 = s.1 ∧ μ 145 7 = s.2.1 ∧ μ 145 8 = s.2.2.1 ∧ RepD μ f s.2.2.2) (hok : psOk s) : Ctr G mX9_readItem [.ref 145, .ref f] (Hp μ) (ItR μ t f (itemS r s)) := by
  refine Ctr.of ?_
  obtain ⟨hS, k6, k7, k8, hD⟩ := hI
  obtain ⟨o1, o2, o3, o4, o5, o6, o7⟩ := hok
  have kt := hS.2.1
  have kr := tkK_rng (hS.ok hx)
  have rfl1 : ∀ q : Nat, q ≠ 145 → (q < f ∨ f + 3 ≤ q) → μ q = μ q := fun _ _ _ => rfl
  by_cases hb : tkK r = 111 ∨ tkK r = 110
  · have e1 : itemS r s = cif (s.1 = 0) (cif (okB r) (finS (nxt (nxt r)) (s.1, s.2.1, s.2.2.1, (kB r, tkV (nxt r), 0, []))) (false, nxt r, s)) (false, r, s) := cif_pos hb
    rw [e1]
    by_cases h0 : s.1 = 0
    · rw [cif_pos h0]
      refine E_aload_n dX9_readItem_0 rfl ?_
      refine GX9_40 sk_145 dX9_readItem_1 ?_
      refine E_bipush dX9_readItem_4 ?_
      refine E_icmp_eq 18 dX9_readItem_6 (fun h6 => ?_) (fun h6 => ?_)
      · -- 18
        refine E_aload_n dX9_readItem_18 rfl ?_
        refine GX9_28 sk_145 dX9_readItem_19 ?_
        refine E_if_ne 37 dX9_readItem_22 (fun h22 => ?_) (fun h22 => ?_)
        · -- 37
          first | (exfalso; omega) | skip
        · -- 25
          refine E_aload_n dX9_readItem_25 rfl ?_
          refine E_aload_n dX9_readItem_26 rfl ?_
          refine E_callVP dX9_readItem_27 lkX9_50 (Hp_get sk_145) (c_readBase hf hfd hS hx hb) ?_
          rintro v M' ⟨μ1, rfl, a2, a3, ⟨b1, rfl, b2, b3⟩ | ⟨b1, rfl, b2⟩⟩
          · rw [cif_pos b1]
            refine E_if_eq 37 dX9_readItem_30 (fun q => absurd q (by decide)) (fun q => ?_)
            refine E_iconst dX9_readItem_33 ?_
            refine E_goto 38 dX9_readItem_34 ?_
            refine E_istore_n dX9_readItem_38 ?_
            refine E_goto 74 dX9_readItem_39 ?_
            exact item_fin (r := r) (s := (s.1, s.2.1, s.2.2.1, (kB r, tkV (nxt r), 0, []))) 1 hx hfd rfl b2 (by rw [a2 6 (by omega)]; exact k6) (by rw [a2 7 (by omega)]; exact k7) (by rw [a2 8 (by omega)]; exact k8) b3 ⟨o2, o3⟩ a3
          · rw [cif_neg b1]
            refine E_if_eq 37 dX9_readItem_30 (fun q => ?_) (fun q => absurd rfl q)
            refine E_iconst dX9_readItem_37 ?_
            refine E_istore_n dX9_readItem_38 ?_
            refine E_goto 74 dX9_readItem_39 ?_
            exact item_no (s := s) rfl b2 a3
          skip
      · -- 9
        refine E_aload_n dX9_readItem_9 rfl ?_
        refine GX9_40 sk_145 dX9_readItem_10 ?_
        refine E_bipush dX9_readItem_13 ?_
        refine E_icmp_ne 42 dX9_readItem_15 (fun h15 => ?_) (fun h15 => ?_)
        · -- 42
          exfalso; omega
        · -- 18
          refine E_aload_n dX9_readItem_18 rfl ?_
          refine GX9_28 sk_145 dX9_readItem_19 ?_
          refine E_if_ne 37 dX9_readItem_22 (fun h22 => ?_) (fun h22 => ?_)
          · -- 37
            first | (exfalso; omega) | skip
          · -- 25
            refine E_aload_n dX9_readItem_25 rfl ?_
            refine E_aload_n dX9_readItem_26 rfl ?_
            refine E_callVP dX9_readItem_27 lkX9_50 (Hp_get sk_145) (c_readBase hf hfd hS hx hb) ?_
            rintro v M' ⟨μ1, rfl, a2, a3, ⟨b1, rfl, b2, b3⟩ | ⟨b1, rfl, b2⟩⟩
            · rw [cif_pos b1]
              refine E_if_eq 37 dX9_readItem_30 (fun q => absurd q (by decide)) (fun q => ?_)
              refine E_iconst dX9_readItem_33 ?_
              refine E_goto 38 dX9_readItem_34 ?_
              refine E_istore_n dX9_readItem_38 ?_
              refine E_goto 74 dX9_readItem_39 ?_
              exact item_fin (r := r) (s := (s.1, s.2.1, s.2.2.1, (kB r, tkV (nxt r), 0, []))) 1 hx hfd rfl b2 (by rw [a2 6 (by omega)]; exact k6) (by rw [a2 7 (by omega)]; exact k7) (by rw [a2 8 (by omega)]; exact k8) b3 ⟨o2, o3⟩ a3
            · rw [cif_neg b1]
              refine E_if_eq 37 dX9_readItem_30 (fun q => ?_) (fun q => absurd rfl q)
              refine E_iconst dX9_readItem_37 ?_
              refine E_istore_n dX9_readItem_38 ?_
              refine E_goto 74 dX9_readItem_39 ?_
              exact item_no (s := s) rfl b2 a3
            skip
    · rw [cif_neg h0]
      refine E_aload_n dX9_readItem_0 rfl ?_
      refine GX9_40 sk_145 dX9_readItem_1 ?_
      refine E_bipush dX9_readItem_4 ?_
      refine E_icmp_eq 18 dX9_readItem_6 (fun h6 => ?_) (fun h6 => ?_)
      · -- 18
        refine E_aload_n dX9_readItem_18 rfl ?_
        refine GX9_28 sk_145 dX9_readItem_19 ?_
        refine E_if_ne 37 dX9_readItem_22 (fun h22 => ?_) (fun h22 => ?_)
        · -- 37
          refine E_iconst dX9_readItem_37 ?_
          refine E_istore_n dX9_readItem_38 ?_
          refine E_goto 74 dX9_readItem_39 ?_
          exact item_no (s := s) rfl hS rfl1
        · -- 25
          exfalso; omega
      · -- 9
        refine E_aload_n dX9_readItem_9 rfl ?_
        refine GX9_40 sk_145 dX9_readItem_10 ?_
        refine E_bipush dX9_readItem_13 ?_
        refine E_icmp_ne 42 dX9_readItem_15 (fun h15 => ?_) (fun h15 => ?_)
        · -- 42
          exfalso; omega
        · -- 18
          refine E_aload_n dX9_readItem_18 rfl ?_
          refine GX9_28 sk_145 dX9_readItem_19 ?_
          refine E_if_ne 37 dX9_readItem_22 (fun h22 => ?_) (fun h22 => ?_)
          · -- 37
            refine E_iconst dX9_readItem_37 ?_
            refine E_istore_n dX9_readItem_38 ?_
            refine E_goto 74 dX9_readItem_39 ?_
            exact item_no (s := s) rfl hS rfl1
          · -- 25
            exfalso; omega
  · have e1 : itemS r s = cif (tkK r = 102 ∧ s.2.1 < 8) (cif (okP1 r s.2.2.1) (cif (okP2 r) (finS (nxt (rB r)) (s.1, s.2.1 + 1, (if tkV (nxt r) = 1 then s.2.2.1 else s.2.2.1 + 1), put s.2.2.2 (tkV (nxt r)) (sB r * tkV (rB r)))) (false, rB r, s)) (false, nxt r, s)) (false, r, s) := cif_neg hb
    rw [e1]
    by_cases h0 : tkK r = 102 ∧ s.2.1 < 8
    · rw [cif_pos h0]
      refine E_aload_n dX9_readItem_0 rfl ?_
      refine GX9_40 sk_145 dX9_readItem_1 ?_
      refine E_bipush dX9_readItem_4 ?_
      refine E_icmp_eq 18 dX9_readItem_6 (fun h6 => ?_) (fun h6 => ?_)
      · -- 18
        exfalso; omega
      · -- 9
        refine E_aload_n dX9_readItem_9 rfl ?_
        refine GX9_40 sk_145 dX9_readItem_10 ?_
        refine E_bipush dX9_readItem_13 ?_
        refine E_icmp_ne 42 dX9_readItem_15 (fun h15 => ?_) (fun h15 => ?_)
        · -- 42
          refine E_aload_n dX9_readItem_42 rfl ?_
          refine GX9_40 sk_145 dX9_readItem_43 ?_
          refine E_bipush dX9_readItem_46 ?_
          refine E_icmp_ne 72 dX9_readItem_48 (fun h48 => ?_) (fun h48 => ?_)
          · -- 72
            exfalso; omega
          · -- 51
            refine E_aload_n dX9_readItem_51 rfl ?_
            refine GX9_31 sk_145 dX9_readItem_52 ?_
            refine E_bipush dX9_readItem_55 ?_
            refine E_icmp_ge 72 dX9_readItem_57 (fun h57 => ?_) (fun h57 => ?_)
            · -- 72
              exfalso; omega
            · -- 60
              refine E_aload_n dX9_readItem_60 rfl ?_
              refine E_aload_n dX9_readItem_61 rfl ?_
              refine E_callVP dX9_readItem_62 lkX9_53 (Hp_get sk_145) (c_readPair (pr := s.2.1) (cr := s.2.2.1) hf hfd hx hS hD o1 (by omega) (by omega) k7 k8) ?_
              rintro v M' ⟨μ1, rfl, a2, a3, ⟨b1, b2, rfl, b4, b5, b6, b7⟩ | ⟨b1, b2, rfl, b4⟩ | ⟨b1, rfl, b4⟩⟩
              · rw [cif_pos b1, cif_pos b2]
                refine E_if_eq 72 dX9_readItem_65 (fun q => absurd q (by decide)) (fun q => ?_)
                refine E_iconst dX9_readItem_68 ?_
                refine E_goto 73 dX9_readItem_69 ?_
                refine E_istore_n dX9_readItem_73 ?_
                exact item_fin (r := r) (s := (s.1, s.2.1 + 1, (if tkV (nxt r) = 1 then s.2.2.1 else s.2.2.1 + 1), put s.2.2.2 (tkV (nxt r)) (sB r * tkV (rB r)))) 1 hx hfd rfl b4 (by rw [a2]; exact k6) b6 b7 b5 ⟨o2, o3⟩ a3
              · rw [cif_pos b1, cif_neg b2]
                refine E_if_eq 72 dX9_readItem_65 (fun q => ?_) (fun q => absurd rfl q)
                refine E_iconst dX9_readItem_72 ?_
                refine E_istore_n dX9_readItem_73 ?_
                exact item_no (s := s) rfl b4 a3
              · rw [cif_neg b1]
                refine E_if_eq 72 dX9_readItem_65 (fun q => ?_) (fun q => absurd rfl q)
                refine E_iconst dX9_readItem_72 ?_
                refine E_istore_n dX9_readItem_73 ?_
                exact item_no (s := s) rfl b4 a3
              skip
        · -- 18
          exfalso; omega
    · rw [cif_neg h0]
      refine E_aload_n dX9_readItem_0 rfl ?_
      refine GX9_40 sk_145 dX9_readItem_1 ?_
      refine E_bipush dX9_readItem_4 ?_
      refine E_icmp_eq 18 dX9_readItem_6 (fun h6 => ?_) (fun h6 => ?_)
      · -- 18
        exfalso; omega
      · -- 9
        refine E_aload_n dX9_readItem_9 rfl ?_
        refine GX9_40 sk_145 dX9_readItem_10 ?_
        refine E_bipush dX9_readItem_13 ?_
        refine E_icmp_ne 42 dX9_readItem_15 (fun h15 => ?_) (fun h15 => ?_)
        · -- 42
          refine E_aload_n dX9_readItem_42 rfl ?_
          refine GX9_40 sk_145 dX9_readItem_43 ?_
          refine E_bipush dX9_readItem_46 ?_
          refine E_icmp_ne 72 dX9_readItem_48 (fun h48 => ?_) (fun h48 => ?_)
          · -- 72
            refine E_iconst dX9_readItem_72 ?_
            refine E_istore_n dX9_readItem_73 ?_
            exact item_no (s := s) rfl hS rfl1
          · -- 51
            refine E_aload_n dX9_readItem_51 rfl ?_
            refine GX9_31 sk_145 dX9_readItem_52 ?_
            refine E_bipush dX9_readItem_55 ?_
            refine E_icmp_ge 72 dX9_readItem_57 (fun h57 => ?_) (fun h57 => ?_)
            · -- 72
              refine E_iconst dX9_readItem_72 ?_
              refine E_istore_n dX9_readItem_73 ?_
              exact item_no (s := s) rfl hS rfl1
            · -- 60
              exfalso; omega
        · -- 18
          exfalso; omega
noncomputable def parseS : Nat → List Int → PS → Bool × List Int × PS
  | 0, r, s => (true, r, s)
  | n + 1, r, s => cif (tkK r = 257) (true, r, s) (cif ((itemS r s).1 = true) (parseS n (itemS r s).2.1 (itemS r s).2.2) (false, (itemS r s).2.1, s))
theorem finS_ok {r : List Int} {s : PS} (h : (finS r s).1 = true) : tkK r = 59 ∧ (finS r s).2.1 = nxt r ∧ (finS r s).2.2 = (s.1 + 1, s.2.1, s.2.2.1, s.2.2.2) := by
  by_cases hk : tkK r = 59
  · have e : finS r s = (true, nxt r, (s.1 + 1, s.2.1, s.2.2.1, s.2.2.2)) := cif_pos hk
    rw [e]; exact ⟨hk, rfl, rfl⟩
  · have e : finS r s = (false, r, s) := cif_neg hk
    rw [e] at h; exact absurd h Bool.false_ne_true
theorem rB_len (r : List Int) : (rB r).length ≤ (nxt r).length := by
  have h1 := (nxt_len (nxt r)).1
  have h2 := (nxt_len (nxt (nxt r))).1
  unfold rB; split <;> omega
theorem itemS_ok {r : List Int} {s : PS} (hr : r ≠ []) (hok : psOk s) (h9 : s.1 ≤ 99) (h : (itemS r s).1 = true) : (itemS r s).2.1.length < r.length ∧ (itemS r s).2.2.1 = s.1 + 1 ∧ psOk (itemS r s).2.2 := by
  obtain ⟨o1, o2, o3, o4, o5, o6, o7⟩ := hok
  have n1 := (nxt_len r).2 hr
  by_cases hb : tkK r = 111 ∨ tkK r = 110
  · have e1 : itemS r s = cif (s.1 = 0) (cif (okB r) (finS (nxt (nxt r)) (s.1, s.2.1, s.2.2.1, (kB r, tkV (nxt r), 0, []))) (false, nxt r, s)) (false, r, s) := cif_pos hb
    rw [e1] at h ⊢
    by_cases h0 : s.1 = 0
    · rw [cif_pos h0] at h ⊢
      by_cases h1 : okB r
      · rw [cif_pos h1] at h ⊢
        obtain ⟨f1, f2, f3⟩ := finS_ok h
        rw [f2, f3]
        have n2 := (nxt_len (nxt r)).1
        have n3 := (nxt_len (nxt (nxt r))).1
        exact ⟨by omega, rfl, fun y hy => by simp at hy, by simp only; omega, by simp only; omega, o4, o5, o6, o7⟩
      · rw [cif_neg h1] at h; exact absurd h Bool.false_ne_true
    · rw [cif_neg h0] at h; exact absurd h Bool.false_ne_true
  · have e1 : itemS r s = cif (tkK r = 102 ∧ s.2.1 < 8) (cif (okP1 r s.2.2.1) (cif (okP2 r) (finS (nxt (rB r)) (s.1, s.2.1 + 1, (if tkV (nxt r) = 1 then s.2.2.1 else s.2.2.1 + 1), put s.2.2.2 (tkV (nxt r)) (sB r * tkV (rB r)))) (false, rB r, s)) (false, nxt r, s)) (false, r, s) := cif_neg hb
    rw [e1] at h ⊢
    by_cases h0 : tkK r = 102 ∧ s.2.1 < 8
    · rw [cif_pos h0] at h ⊢
      by_cases h1 : okP1 r s.2.2.1
      · rw [cif_pos h1] at h ⊢
        by_cases h2 : okP2 r
        · rw [cif_pos h2] at h ⊢
          obtain ⟨f1, f2, f3⟩ := finS_ok h
          rw [f2, f3]
          have n2 := rB_len r
          have n3 := (nxt_len (rB r)).1
          have n4 := (nxt_len (nxt (rB r))).1
          have hm : mostA s.2.2.1 ≤ 30 := by unfold mostA; split <;> omega
          have h1' := h1.2
          refine ⟨by omega, rfl, smF_put (by omega) o1, by simp only; omega, by simp only; omega, by simp only; omega, by simp only; omega, ?_, ?_⟩
          · simp only; split <;> omega
          · simp only; split <;> omega
        · rw [cif_neg h2] at h; exact absurd h Bool.false_ne_true
      · rw [cif_neg h1] at h; exact absurd h Bool.false_ne_true
    · rw [cif_neg h0] at h; exact absurd h Bool.false_ne_true
def DesR (μ : Mem) (t : List Int) (f : Nat) (R : Bool × List Int × PS) : QT := fun v M' => ∃ μ', M' = Hp μ' ∧ (∀ q : Nat, q ≠ 145 → (q < f ∨ f + 3 ≤ q) → μ' q = μ q) ∧ v = some (vi (if R.1 = true then R.2.2.1 else -10 - ((t.length : Int) - R.2.1.length))) ∧ RepT μ' t ∧ (R.1 = true → RepD μ' f R.2.2.2.2.2)
theorem des_end {r : List Int} {s : PS} {k : Int} {μ1 : Mem} (hk : 0 ≤ k ∧ k ≤ 100) (ho : ∀ q : Nat, q ≠ 145 → (q < f ∨ f + 3 ≤ q) → μ1 q = μ q) (hS : TkS μ1 t r) :
    E G mX9_describe (Zq G mX9_describe (DesR μ t f (false, r, s))) 0 0 35 [.ref 145, .ref f, vi 0, vi k] [] (Hp μ1) := by
  refine E_iload_n dX9_describe_35 rfl ?_
  refine E_bipush dX9_describe_36 ?_
  refine E_icmp_gt 67 dX9_describe_38 (fun h38 => ?_) (fun h38 => ?_)
  · -- 67
    refine E_iload_n dX9_describe_67 rfl ?_
    refine E_if_eq 78 dX9_describe_68 (fun h68 => ?_) (fun h68 => ?_)
    · -- 78
      refine E_bipush dX9_describe_78 ?_
      refine E_aload_n dX9_describe_80 rfl ?_
      refine GX9_47 sk_145 dX9_describe_81 ?_
      rw [hS.2.2.1]
      refine E_isub dX9_describe_84 ?_
      refine E_iret dX9_describe_85 ?_
      exact ⟨_, rfl, ho, rfl, hS.1, fun q => absurd q Bool.false_ne_true⟩
    · -- 71
      exfalso; omega
  · -- 41
    refine E_iload_n dX9_describe_41 rfl ?_
    refine E_if_eq 67 dX9_describe_42 (fun h42 => ?_) (fun h42 => ?_)
    · -- 67
      refine E_iload_n dX9_describe_67 rfl ?_
      refine E_if_eq 78 dX9_describe_68 (fun h68 => ?_) (fun h68 => ?_)
      · -- 78
        refine E_bipush dX9_describe_78 ?_
        refine E_aload_n dX9_describe_80 rfl ?_
        refine GX9_47 sk_145 dX9_describe_81 ?_
        rw [hS.2.2.1]
        refine E_isub dX9_describe_84 ?_
        refine E_iret dX9_describe_85 ?_
        exact ⟨_, rfl, ho, rfl, hS.1, fun q => absurd q Bool.false_ne_true⟩
      · -- 71
        exfalso; omega
    · -- 45
      exfalso; omega
theorem des_loop (hf : isSp f) (hfd : f + 3 ≤ 145 ∨ 147 ≤ f) (hx : txOk t) : ∀ (n : Nat) (r : List Int) (s : PS) (k : Int) (μ1 : Mem), r.length < n → 0 ≤ k → k + r.length ≤ 100 → s.1 ≤ k → (TkS μ1 t r ∧ μ1 145 6 = s.1 ∧ μ1 145 7 = s.2.1 ∧ μ1 145 8 = s.2.2.1 ∧ RepD μ1 f s.2.2.2) → psOk s → (∀ q : Nat, q ≠ 145 → (q < f ∨ f + 3 ≤ q) → μ1 q = μ q) →
    E G mX9_describe (Zq G mX9_describe (DesR μ t f (parseS n r s))) 0 0 35 [.ref 145, .ref f, vi 1, vi k] [] (Hp μ1) := by
  intro n
  induction n with
  | zero => intro r s k μ1 e1; omega
  | succ n ih =>
    intro r s k μ1 e1 e2 e3 e4 hI hok ho
    have hS := hI.1
    have kt := hS.2.1
    have kr := tkK_rng (hS.ok hx)
    by_cases hE : tkK r = 257
    · rw [show parseS (n + 1) r s = (true, r, s) from cif_pos hE]
      refine E_iload_n dX9_describe_35 rfl ?_
      refine E_bipush dX9_describe_36 ?_
      refine E_icmp_gt 67 dX9_describe_38 (fun h38 => ?_) (fun h38 => ?_)
      · -- 67
        refine E_iload_n dX9_describe_67 rfl ?_
        refine E_if_eq 78 dX9_describe_68 (fun h68 => ?_) (fun h68 => ?_)
        · -- 78
          exfalso; omega
        · -- 71
          refine E_aload_n dX9_describe_71 rfl ?_
          refine GX9_28 sk_145 dX9_describe_72 ?_
          rw [hI.2.1]
          refine E_goto 85 dX9_describe_75 ?_
          refine E_iret dX9_describe_85 ?_
          first | (exfalso; omega) | exact ⟨_, rfl, ho, rfl, hS.1, fun _ => hI.2.2.2.2⟩
      · -- 41
        refine E_iload_n dX9_describe_41 rfl ?_
        refine E_if_eq 67 dX9_describe_42 (fun h42 => ?_) (fun h42 => ?_)
        · -- 67
          refine E_iload_n dX9_describe_67 rfl ?_
          refine E_if_eq 78 dX9_describe_68 (fun h68 => ?_) (fun h68 => ?_)
          · -- 78
            exfalso; omega
          · -- 71
            refine E_aload_n dX9_describe_71 rfl ?_
            refine GX9_28 sk_145 dX9_describe_72 ?_
            rw [hI.2.1]
            refine E_goto 85 dX9_describe_75 ?_
            refine E_iret dX9_describe_85 ?_
            first | (exfalso; omega) | exact ⟨_, rfl, ho, rfl, hS.1, fun _ => hI.2.2.2.2⟩
        · -- 45
          refine E_aload_n dX9_describe_45 rfl ?_
          refine GX9_40 sk_145 dX9_describe_46 ?_
          refine E_sipush dX9_describe_49 ?_
          refine E_icmp_eq 67 dX9_describe_52 (fun h52 => ?_) (fun h52 => ?_)
          · -- 67
            refine E_iload_n dX9_describe_67 rfl ?_
            refine E_if_eq 78 dX9_describe_68 (fun h68 => ?_) (fun h68 => ?_)
            · -- 78
              exfalso; omega
            · -- 71
              refine E_aload_n dX9_describe_71 rfl ?_
              refine GX9_28 sk_145 dX9_describe_72 ?_
              rw [hI.2.1]
              refine E_goto 85 dX9_describe_75 ?_
              refine E_iret dX9_describe_85 ?_
              first | (exfalso; omega) | exact ⟨_, rfl, ho, rfl, hS.1, fun _ => hI.2.2.2.2⟩
          · -- 55
            exfalso; omega
    · have hne : r ≠ [] := by rintro rfl; exact hE rfl
      have hlen : 0 < r.length := List.length_pos_iff.mpr hne
      rw [show parseS (n + 1) r s = cif ((itemS r s).1 = true) (parseS n (itemS r s).2.1 (itemS r s).2.2) (false, (itemS r s).2.1, s) from cif_neg hE]
      refine E_iload_n dX9_describe_35 rfl ?_
      refine E_bipush dX9_describe_36 ?_
      refine E_icmp_gt 67 dX9_describe_38 (fun h38 => ?_) (fun h38 => ?_)
      · -- 67
        first | (exfalso; omega) | exact absurd h42 (by decide)
      · -- 41
        refine E_iload_n dX9_describe_41 rfl ?_
        refine E_if_eq 67 dX9_describe_42 (fun h42 => ?_) (fun h42 => ?_)
        · -- 67
          first | (exfalso; omega) | exact absurd h42 (by decide)
        · -- 45
          refine E_aload_n dX9_describe_45 rfl ?_
          refine GX9_40 sk_145 dX9_describe_46 ?_
          refine E_sipush dX9_describe_49 ?_
          refine E_icmp_eq 67 dX9_describe_52 (fun h52 => ?_) (fun h52 => ?_)
          · -- 67
            first | (exfalso; omega) | exact absurd h42 (by decide)
          · -- 55
            refine E_aload_n dX9_describe_55 rfl ?_
            refine E_aload_n dX9_describe_56 rfl ?_
            refine E_callVP dX9_describe_57 lkX9_43 (Hp_get sk_145) (c_readItem (s := s) hf hfd hx hI hok) ?_
            rintro v M' ⟨μ2, rfl, a1, rfl, a3, a4⟩
            by_cases hi : (itemS r s).1 = true
            · rw [cif_pos hi, if_pos hi]
              obtain ⟨b1, b2, b3⟩ := itemS_ok hne hok (by omega) hi
              obtain ⟨c1, c2, c3, c4⟩ := a4 hi
              refine E_istore_n dX9_describe_60 ?_
              refine E_iinc dX9_describe_61 rfl ?_
              refine E_goto 35 dX9_describe_64 ?_
              exact ih _ _ (k + 1) μ2 (by omega) (by omega) (by omega) (by rw [b2]; omega) ⟨a3, c1, c2, c3, c4⟩ b3 (fun q q1 q2 => by rw [a1 q q1 q2, ho q q1 q2])
            · rw [cif_neg hi, if_neg hi]
              refine E_istore_n dX9_describe_60 ?_
              refine E_iinc dX9_describe_61 rfl ?_
              refine E_goto 35 dX9_describe_64 ?_
              exact des_end (s := s) (by omega) (fun q q1 q2 => by rw [a1 q q1 q2, ho q q1 q2]) a3
            skip
noncomputable def tellS (t : List Int) : Bool × List Int × PS := parseS 101 (skipB t) (0, 0, 0, (0, 0, 0, []))
theorem c_describe (hf : isSp f) (hfd : f + 3 ≤ 145 ∨ 147 ≤ f) (hx : txOk t) (hT : RepT μ t) : Ctr G mX9_describe [.ref 145, .ref f] (Hp μ) (DesR μ t f (tellS t)) := by
  refine Ctr.of ?_
  have k2 := hT.2.1
  refine E_aload_n dX9_describe_0 rfl ?_
  refine E_iconst dX9_describe_1 ?_
  refine E_iconst dX9_describe_2 ?_
  refine E_iconst dX9_describe_3 ?_
  refine E_callVV dX9_describe_4 lkX9_19 (Hp_get hf.1) (c_start hf) ?_
  rintro μ1 ⟨a1, a2⟩
  refine E_aload_n dX9_describe_7 rfl ?_
  refine E_iconst dX9_describe_8 ?_
  refine PX9_25 sk_145 dX9_describe_9 ?_
  refine E_aload_n dX9_describe_12 rfl ?_
  refine E_iconst dX9_describe_13 ?_
  refine PX9_28 sk_145 dX9_describe_14 ?_
  refine E_aload_n dX9_describe_17 rfl ?_
  refine E_iconst dX9_describe_18 ?_
  refine PX9_31 sk_145 dX9_describe_19 ?_
  refine E_aload_n dX9_describe_22 rfl ?_
  refine E_iconst dX9_describe_23 ?_
  refine PX9_34 sk_145 dX9_describe_24 ?_
  refine E_iconst dX9_describe_27 ?_
  refine E_istore_n dX9_describe_28 ?_
  refine E_aload_n dX9_describe_29 rfl ?_
  have hT1 : RepT (up (up (up (up μ1 145 2 0) 145 6 0) 145 7 0) 145 8 0) t := ⟨by rw [up_r, if_neg (by omega), up_r, if_neg (by omega), up_r, if_neg (by omega), up_r, if_neg (by omega), a2 145 (by omega)]; exact hT.1, k2, hT.2.2.kept (by rw [up_ne 146 (by decide), up_ne 146 (by decide), up_ne 146 (by decide), up_ne 146 (by decide), a2 146 (by omega)])⟩
  refine E_callVV dX9_describe_30 lkX9_37 (Hp_get sk_145) (c_adv0 (a := []) (r := t) hT1 hx rfl (by rw [up_r, if_neg (by omega), up_r, if_neg (by omega), up_r, if_neg (by omega), up_r, if_pos rfl]; rfl)) ?_
  rintro μ2 ⟨b1, b2, b3⟩
  refine E_iconst dX9_describe_33 ?_
  refine E_istore_n dX9_describe_34 ?_
  have hsl := dw_len (p := fun c => decide (c = 32)) t
  have hsl : (skipB t).length ≤ t.length := hsl
  refine des_loop (G := G) (μ := μ) hf hfd hx 101 (skipB t) (0, 0, 0, (0, 0, 0, [])) 0 μ2 (by omega) (by omega) (by omega) (by simp) ⟨b1, ?_, ?_, ?_, ?_⟩ ⟨fun y hy => by simp at hy, by simp, by simp, by simp, by simp, by simp, by simp⟩ (fun q q1 q2 => ?_)
  · rw [b2 6 (by omega), up_r, if_neg (by omega), up_r, if_neg (by omega), up_r, if_pos rfl]
  · rw [b2 7 (by omega), up_r, if_neg (by omega), up_r, if_pos rfl]
  · rw [b2 8 (by omega), up_r, if_pos rfl]
  · refine a1.keptD ?_ ?_ ?_
    · rw [b3 f (by omega), up_ne f (by omega), up_ne f (by omega), up_ne f (by omega), up_ne f (by omega)]
    · rw [b3 (f + 1) (by omega), up_ne (f + 1) (by omega), up_ne (f + 1) (by omega), up_ne (f + 1) (by omega), up_ne (f + 1) (by omega)]
    · rw [b3 (f + 2) (by omega), up_ne (f + 2) (by omega), up_ne (f + 2) (by omega), up_ne (f + 2) (by omega), up_ne (f + 2) (by omega)]
  · rw [b3 q (by omega), up_ne q (by omega), up_ne q (by omega), up_ne q (by omega), up_ne q (by omega), a2 q (by omega)]
theorem c_append {c : Int} (hT : RepT μ t) (h1 : t.length < 100) : Ctr G mX9_append [.ref 145, vi c] (Hp μ) (V0 (fun μ' => RepT μ' (t ++ [c]) ∧ Off 145 2 μ μ')) := by
  refine Ctr.of ?_
  obtain ⟨k1, k2, k3⟩ := hT
  refine E_aload_n dX9_append_0 rfl ?_
  refine GX9_15 sk_145 dX9_append_1 ?_
  refine E_bipush dX9_append_4 ?_
  refine E_icmp_ge 29 dX9_append_6 (fun h6 => ?_) (fun h6 => ?_)
  · -- 29
    refine E_vret dX9_append_29 ?_
    first | (exfalso; omega) | exact ⟨rfl, _, rfl, ⟨by rw [up_r, if_pos rfl]; simp, by simp; omega, (k3.push c).kept (up_ne 146 (by decide))⟩, (Off.rf.up (by omega) (by omega)).up (by omega) (by omega)⟩
  · -- 9
    refine E_aload_n dX9_append_9 rfl ?_
    refine GX9_9 sk_145 dX9_append_10 ?_
    refine E_aload_n dX9_append_13 rfl ?_
    refine GX9_15 sk_145 dX9_append_14 ?_
    rw [k1]
    refine E_iload_n dX9_append_17 rfl ?_
    refine H_iast sk_146 dX9_append_18 ?_
    refine E_aload_n dX9_append_19 rfl ?_
    refine E_dup dX9_append_20 ?_
    refine GX9_15 sk_145 dX9_append_21 ?_
    rw [up_ne 145 (by decide), k1]
    refine E_iconst dX9_append_24 ?_
    refine E_iadd dX9_append_25 ?_
    refine PX9_15 sk_145 dX9_append_26 ?_
    refine E_vret dX9_append_29 ?_
    first | (exfalso; omega) | exact ⟨rfl, _, rfl, ⟨by rw [up_r, if_pos rfl]; simp, by simp; omega, (k3.push c).kept (up_ne 146 (by decide))⟩, (Off.rf.up (by omega) (by omega)).up (by omega) (by omega)⟩
end TELL
