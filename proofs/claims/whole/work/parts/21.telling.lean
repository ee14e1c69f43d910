/-! the text, and how the class reads it -/
def isDg (c : Int) : Bool := decide (48 ≤ c) && decide (c ≤ 57)
theorem isDg_t {c : Int} : isDg c = true ↔ 48 ≤ c ∧ c ≤ 57 := by simp [isDg]
theorem isDg_f {c : Int} : isDg c = false ↔ ¬ (48 ≤ c ∧ c ≤ 57) := by rw [← isDg_t]; simp
def numV : Int → List Int → Int
  | v, [] => v
  | v, c :: t => if isDg c then numV (min (10 * v + c - 48) 1000) t else v
def skipB (r : List Int) : List Int := r.dropWhile (fun c => decide (c = 32))
def tkK (r : List Int) : Int := match r with
  | [] => 257
  | c :: _ => if isDg c then 256 else c
def tkV (r : List Int) : Int := match r with
  | c :: d :: t => if c = 48 ∧ isDg d = true then 1000 else numV 0 (c :: d :: t)
  | r => numV 0 r
def tkR (r : List Int) : List Int := match r with
  | [] => []
  | c :: t => if isDg c then (c :: t).dropWhile isDg else t
def nxt (r : List Int) : List Int := skipB (tkR r)
theorem dw_len {p : Int → Bool} : ∀ l : List Int, (l.dropWhile p).length ≤ l.length
  | [] => by simp
  | c :: t => by
    have := dw_len (p := p) t
    rw [List.dropWhile_cons]
    split
    · simp; omega
    · simp
theorem dw_suf {p : Int → Bool} : ∀ l : List Int, ∃ a, l = a ++ l.dropWhile p
  | [] => ⟨[], by simp⟩
  | c :: t => by
    rw [List.dropWhile_cons]
    split
    · obtain ⟨a, ha⟩ := dw_suf (p := p) t
      exact ⟨c :: a, by rw [List.cons_append, ← ha]⟩
    · exact ⟨[], rfl⟩
theorem tkR_len (r : List Int) : (tkR r).length ≤ r.length ∧ (r ≠ [] → (tkR r).length < r.length) := by
  cases r with
  | nil => simp [tkR]
  | cons c t =>
    simp only [tkR]
    split
    · next h =>
      rw [List.dropWhile_cons, if_pos h]
      have := dw_len (p := isDg) t
      simp; omega
    · simp
theorem tkR_suf (r : List Int) : ∃ a, r = a ++ tkR r := by
  cases r with
  | nil => exact ⟨[], rfl⟩
  | cons c t =>
    simp only [tkR]
    split
    · exact dw_suf _
    · exact ⟨[c], rfl⟩
theorem nxt_suf (r : List Int) : ∃ a, r = a ++ nxt r := by
  obtain ⟨a, ha⟩ := tkR_suf r
  obtain ⟨b, hb⟩ := dw_suf (p := fun c => decide (c = 32)) (tkR r)
  refine ⟨a ++ b, ?_⟩
  unfold nxt skipB
  rw [List.append_assoc, ← hb]; exact ha
theorem nxt_len (r : List Int) : (nxt r).length ≤ r.length ∧ (r ≠ [] → (nxt r).length < r.length) := by
  have h1 := tkR_len r
  have h2 := dw_len (p := fun c => decide (c = 32)) (tkR r)
  unfold nxt skipB
  exact ⟨by omega, fun h => by have := h1.2 h; omega⟩
theorem tkK_ne {r : List Int} (hb : ∀ c ∈ r, 0 ≤ c ∧ c ≤ 255) (h : tkK r ≠ 257) : r ≠ [] := by rintro rfl; exact h rfl
theorem tkK_nil {r : List Int} (hb : ∀ c ∈ r, 0 ≤ c ∧ c ≤ 255) (h : tkK r = 257) : r = [] := by
  cases r with
  | nil => rfl
  | cons c t =>
    have := hb c List.mem_cons_self
    simp only [tkK] at h
    split at h <;> omega
theorem tkK_rng {r : List Int} (hb : ∀ c ∈ r, 0 ≤ c ∧ c ≤ 255) : 0 ≤ tkK r ∧ tkK r ≤ 257 := by
  cases r with
  | nil => simp [tkK]
  | cons c t =>
    have := hb c List.mem_cons_self
    simp only [tkK]
    split <;> omega
theorem numV_rng : ∀ (l : List Int) (v : Int), 0 ≤ v → v ≤ 1000 → 0 ≤ numV v l ∧ numV v l ≤ 1000
  | [], v, h0, h1 => by simp [numV]; omega
  | c :: t, v, h0, h1 => by
    simp only [numV]
    split
    · next h =>
      have := isDg_t.mp h
      exact numV_rng t _ (by omega) (by omega)
    · omega
theorem tkV_rng (r : List Int) : 0 ≤ tkV r ∧ tkV r ≤ 1000 := by
  unfold tkV
  split
  · split
    · omega
    · exact numV_rng _ _ (by omega) (by omega)
  · exact numV_rng _ _ (by omega) (by omega)
def RepT (μ : Mem) (t : List Int) : Prop := μ 145 1 = t.length ∧ t.length ≤ 100 ∧ RepV μ 146 t
def txOk (t : List Int) : Prop := ∀ c ∈ t, 0 ≤ c ∧ c ≤ 255
/-- the token at r is the present one -/
def TkS (μ : Mem) (t r : List Int) : Prop := RepT μ t ∧ μ 145 3 = tkK r ∧ μ 145 4 = (t.length : Int) - r.length ∧ μ 145 2 = (t.length : Int) - (tkR r).length ∧ (tkK r = 256 → μ 145 5 = tkV r) ∧ ∃ a, t = a ++ r
theorem TkS.kept {μ μ' : Mem} {t r : List Int} (h : TkS μ t r) (h1 : ∀ j : Int, 1 ≤ j → j ≤ 5 → μ' 145 j = μ 145 j) (h2 : μ' 146 = μ 146) : TkS μ' t r := by
  obtain ⟨⟨a1, a2, a3⟩, a4, a5, a6, a7, a8⟩ := h
  exact ⟨⟨by rw [h1 1 (by omega) (by omega)]; exact a1, a2, a3.kept h2⟩, by rw [h1 3 (by omega) (by omega)]; exact a4, by rw [h1 4 (by omega) (by omega)]; exact a5, by rw [h1 2 (by omega) (by omega)]; exact a6, fun q => by rw [h1 5 (by omega) (by omega)]; exact a7 q, a8⟩
theorem RepD.keptD {μ μ' : Mem} {r : Nat} {s : Sp} (h : RepD μ r s) (h0 : μ' r = μ r) (hA : μ' (r + 1) = μ (r + 1)) (hB : μ' (r + 2) = μ (r + 2)) : RepD μ' r s := by
  obtain ⟨a1, a2, a3, a4, a5⟩ := h
  exact ⟨by rw [h0]; exact a1, by rw [h0]; exact a2, by rw [h0]; exact a3, fun q => ⟨by rw [h0]; exact (a4 q).1, by rw [h0]; exact (a4 q).2.1, (a4 q).2.2.kept hA hB⟩, fun q => ⟨by rw [h0]; exact (a5 q).1, by rw [h0]; exact (a5 q).2⟩⟩
section TELL
variable {G : GT} {μ : Mem} {f : Nat} {t : List Int}
theorem c_byteAt {p : Int} (hp : 0 ≤ p ∧ p < 100) : Ctr G mX9_byteAt [.ref 145, vi p] (Hp μ) (R1 (vi (μ 146 p)) (Hp μ)) := by
  refine Ctr.of ?_
  refine E_iload_n dX9_byteAt_0 rfl ?_
  refine E_if_lt 19 dX9_byteAt_1 (fun h1 => ?_) (fun h1 => ?_)
  · -- 19
    exfalso; omega
  · -- 4
    refine E_iload_n dX9_byteAt_4 rfl ?_
    refine E_bipush dX9_byteAt_5 ?_
    refine E_icmp_ge 19 dX9_byteAt_7 (fun h7 => ?_) (fun h7 => ?_)
    · -- 19
      exfalso; omega
    · -- 10
      refine E_aload_n dX9_byteAt_10 rfl ?_
      refine GX9_9 sk_145 dX9_byteAt_11 ?_
      refine E_iload_n dX9_byteAt_14 rfl ?_
      refine H_iald sk_146 dX9_byteAt_15 ?_
      refine E_goto 20 dX9_byteAt_16 ?_
      refine E_iret dX9_byteAt_20 ?_
      exact ⟨rfl, rfl⟩
theorem txt_at {a r : List Int} {c : Int} (hT : RepT μ t) (ht : t = a ++ c :: r) : μ 146 a.length = c ∧ a.length < 100 := by
  have k3 := hT.2.2
  have k2 := hT.2.1
  rw [ht] at k3 k2
  simp at k2
  exact ⟨k3.mid, by omega⟩
def dgH (r : List Int) : Int := match r with
  | [] => 0
  | c :: _ => if isDg c then 1 else 0
theorem c_isDigit {a r : List Int} (hT : RepT μ t) (hx : txOk t) (ht : t = a ++ r) : Ctr G mX9_isDigit [.ref 145, vi (a.length : Int)] (Hp μ) (R1 (vi (dgH r)) (Hp μ)) := by
  refine Ctr.of ?_
  have k1 := hT.1
  have k2 := hT.2.1
  cases r with
  | nil =>
    rw [ht] at k1 k2
    simp at k1 k2
    refine E_iload_n dX9_isDigit_0 rfl ?_
    refine E_aload_n dX9_isDigit_1 rfl ?_
    refine GX9_15 sk_145 dX9_isDigit_2 ?_
    refine E_icmp_ge 32 dX9_isDigit_5 (fun h5 => ?_) (fun h5 => ?_)
    · -- 32
      refine E_iconst dX9_isDigit_32 ?_
      refine E_zret dX9_isDigit_33 ?_ (by first | exact Or.inl rfl | exact Or.inr rfl | omega)
      exact ⟨rfl, rfl⟩
    · -- 8
      exfalso; omega
  | cons c r =>
    have ka := txt_at hT ht
    have kc := hx c (by rw [ht]; simp)
    rw [ht] at k1 k2
    simp at k1 k2
    by_cases hd : isDg c = true
    · have kd := isDg_t.mp hd
      have e : dgH (c :: r) = 1 := by simp [dgH, hd]
      rw [e]
      refine E_iload_n dX9_isDigit_0 rfl ?_
      refine E_aload_n dX9_isDigit_1 rfl ?_
      refine GX9_15 sk_145 dX9_isDigit_2 ?_
      refine E_icmp_ge 32 dX9_isDigit_5 (fun h5 => ?_) (fun h5 => ?_)
      · -- 32
        exfalso; omega
      · -- 8
        refine E_aload_n dX9_isDigit_8 rfl ?_
        refine E_iload_n dX9_isDigit_9 rfl ?_
        refine E_callVR dX9_isDigit_10 lkX9_73 (Hp_get sk_145) (c_byteAt (p := (a.length : Int)) (by omega)) ?_
        rw [ka.1]
        refine E_bipush dX9_isDigit_13 ?_
        refine E_icmp_lt 32 dX9_isDigit_15 (fun h15 => ?_) (fun h15 => ?_)
        · -- 32
          exfalso; omega
        · -- 18
          refine E_aload_n dX9_isDigit_18 rfl ?_
          refine E_iload_n dX9_isDigit_19 rfl ?_
          refine E_callVR dX9_isDigit_20 lkX9_73 (Hp_get sk_145) (c_byteAt (p := (a.length : Int)) (by omega)) ?_
          rw [ka.1]
          refine E_bipush dX9_isDigit_23 ?_
          refine E_icmp_gt 32 dX9_isDigit_25 (fun h25 => ?_) (fun h25 => ?_)
          · -- 32
            exfalso; omega
          · -- 28
            refine E_iconst dX9_isDigit_28 ?_
            refine E_goto 33 dX9_isDigit_29 ?_
            refine E_zret dX9_isDigit_33 ?_ (by first | exact Or.inl rfl | exact Or.inr rfl | omega)
            exact ⟨rfl, rfl⟩
    · have kd := mt isDg_t.mpr hd
      have e : dgH (c :: r) = 0 := by simp [dgH, hd]
      rw [e]
      refine E_iload_n dX9_isDigit_0 rfl ?_
      refine E_aload_n dX9_isDigit_1 rfl ?_
      refine GX9_15 sk_145 dX9_isDigit_2 ?_
      refine E_icmp_ge 32 dX9_isDigit_5 (fun h5 => ?_) (fun h5 => ?_)
      · -- 32
        refine E_iconst dX9_isDigit_32 ?_
        refine E_zret dX9_isDigit_33 ?_ (by first | exact Or.inl rfl | exact Or.inr rfl | omega)
        exact ⟨rfl, rfl⟩
      · -- 8
        refine E_aload_n dX9_isDigit_8 rfl ?_
        refine E_iload_n dX9_isDigit_9 rfl ?_
        refine E_callVR dX9_isDigit_10 lkX9_73 (Hp_get sk_145) (c_byteAt (p := (a.length : Int)) (by omega)) ?_
        rw [ka.1]
        refine E_bipush dX9_isDigit_13 ?_
        refine E_icmp_lt 32 dX9_isDigit_15 (fun h15 => ?_) (fun h15 => ?_)
        · -- 32
          refine E_iconst dX9_isDigit_32 ?_
          refine E_zret dX9_isDigit_33 ?_ (by first | exact Or.inl rfl | exact Or.inr rfl | omega)
          exact ⟨rfl, rfl⟩
        · -- 18
          refine E_aload_n dX9_isDigit_18 rfl ?_
          refine E_iload_n dX9_isDigit_19 rfl ?_
          refine E_callVR dX9_isDigit_20 lkX9_73 (Hp_get sk_145) (c_byteAt (p := (a.length : Int)) (by omega)) ?_
          rw [ka.1]
          refine E_bipush dX9_isDigit_23 ?_
          refine E_icmp_gt 32 dX9_isDigit_25 (fun h25 => ?_) (fun h25 => ?_)
          · -- 32
            refine E_iconst dX9_isDigit_32 ?_
            refine E_zret dX9_isDigit_33 ?_ (by first | exact Or.inl rfl | exact Or.inr rfl | omega)
            exact ⟨rfl, rfl⟩
          · -- 28
            exfalso; omega
theorem dgH_rng (r : List Int) : dgH r = 0 ∨ dgH r = 1 := by
  cases r with
  | nil => exact Or.inl rfl
  | cons c r => simp only [dgH]; split <;> simp
/-- reading digits -/
theorem rn_loop (hx : txOk t) {Q : QT} : ∀ (q a : List Int) (v : Int) (μ' : Mem), t = a ++ q → RepT μ' t → μ' 145 2 = a.length → μ' 145 5 = v → 0 ≤ v → v ≤ 1000 → (∀ j : Int, j ≠ 2 → j ≠ 5 → μ' 145 j = μ 145 j) → Off 145 1 μ μ' →
    (∀ μ2 : Mem, RepT μ2 t → μ2 145 2 = (t.length : Int) - (q.dropWhile isDg).length → μ2 145 5 = numV v q → (∀ j : Int, j ≠ 2 → j ≠ 5 → μ2 145 j = μ 145 j) → Off 145 1 μ μ2 → E G mX9_readNumber (Zq G mX9_readNumber Q) 0 0 69 [.ref 145, .retAddr 0] [] (Hp μ2)) →
    E G mX9_readNumber (Zq G mX9_readNumber Q) 0 0 5 [.ref 145, .retAddr 0] [] (Hp μ') := by
  intro q
  induction q with
  | nil =>
    intro a v μ' e1 e2 e3 e4 e5 e6 e7 e8 hk
    have k1 := e2.1
    have k2 := e2.2.1
    simp only [List.append_nil] at e1
    subst e1
    refine E_aload_n dX9_readNumber_5 rfl ?_
    refine GX9_25 sk_145 dX9_readNumber_6 ?_
    refine E_aload_n dX9_readNumber_9 rfl ?_
    refine GX9_15 sk_145 dX9_readNumber_10 ?_
    refine E_icmp_ge 69 dX9_readNumber_13 (fun h13 => ?_) (fun h13 => ?_)
    · -- 69
      exact hk μ' e2 (by simp; omega) e4 e7 e8
    · -- 16
      exfalso; omega
  | cons c q ih =>
    intro a v μ' e1 e2 e3 e4 e5 e6 e7 e8 hk
    have k1 := e2.1
    have k2 := e2.2.1
    have ka := txt_at e2 e1
    have kc := hx c (by rw [e1]; simp)
    have kl : (t.length : Int) = a.length + 1 + q.length := by rw [e1]; simp; omega
    have hdig := c_isDigit (G := G) e2 hx e1
    by_cases hd : isDg c = true
    · have kd := isDg_t.mp hd
      rw [show dgH (c :: q) = 1 by simp [dgH, hd]] at hdig
      refine E_aload_n dX9_readNumber_5 rfl ?_
      refine GX9_25 sk_145 dX9_readNumber_6 ?_
      refine E_aload_n dX9_readNumber_9 rfl ?_
      refine GX9_15 sk_145 dX9_readNumber_10 ?_
      refine E_icmp_ge 69 dX9_readNumber_13 (fun h13 => ?_) (fun h13 => ?_)
      · -- 69
        exfalso; omega
      · -- 16
        refine E_aload_n dX9_readNumber_16 rfl ?_
        refine E_aload_n dX9_readNumber_17 rfl ?_
        refine GX9_25 sk_145 dX9_readNumber_18 ?_
        rw [e3]
        refine E_callVR dX9_readNumber_21 lkX9_77 (Hp_get sk_145) (hdig) ?_
        refine E_if_eq 69 dX9_readNumber_24 (fun h24 => ?_) (fun h24 => ?_)
        · -- 69
          exfalso; omega
        · -- 27
          refine E_aload_n dX9_readNumber_27 rfl ?_
          refine E_bipush dX9_readNumber_28 ?_
          refine E_aload_n dX9_readNumber_30 rfl ?_
          refine GX9_60 sk_145 dX9_readNumber_31 ?_
          rw [e4]
          refine E_imul dX9_readNumber_34 ?_
          refine E_aload_n dX9_readNumber_35 rfl ?_
          refine E_aload_n dX9_readNumber_36 rfl ?_
          refine GX9_25 sk_145 dX9_readNumber_37 ?_
          rw [e3]
          refine E_callVR dX9_readNumber_40 lkX9_73 (Hp_get sk_145) (c_byteAt (p := (a.length : Int)) (by omega)) ?_
          rw [ka.1]
          refine E_iadd dX9_readNumber_43 ?_
          refine E_bipush dX9_readNumber_44 ?_
          refine E_isub dX9_readNumber_46 ?_
          refine E_sipush dX9_readNumber_47 ?_
          refine E_callSR dX9_readNumber_50 lkX9_84 (c_min (x := 10 * v + c - 48) (z := 1000) (by omega) (by omega)) ?_
          refine PX9_60 sk_145 dX9_readNumber_53 ?_
          refine E_aload_n dX9_readNumber_56 rfl ?_
          refine E_dup dX9_readNumber_57 ?_
          refine GX9_25 sk_145 dX9_readNumber_58 ?_
          rw [up_r, if_neg (by omega), e3]
          refine E_iconst dX9_readNumber_61 ?_
          refine E_iadd dX9_readNumber_62 ?_
          refine PX9_25 sk_145 dX9_readNumber_63 ?_
          refine E_goto 5 dX9_readNumber_66 ?_
          refine ih (a ++ [c]) (min (10 * v + c - 48) 1000) _ (by rw [e1]; simp) ⟨by rw [up_r, if_neg (by omega), up_r, if_neg (by omega)]; exact k1, k2, e2.2.2.kept (by rw [up_ne 146 (by decide), up_ne 146 (by decide)])⟩ (by rw [up_r, if_pos rfl]; simp) (by rw [up_r, if_neg (by omega), up_r, if_pos rfl]) (by omega) (by omega) (fun j j2 j5 => by rw [up_r, if_neg j2, up_r, if_neg j5]; exact e7 j j2 j5) ((e8.up (by omega) (by omega)).up (by omega) (by omega)) (fun μ2 q1 q2 q3 q4 q5 => hk μ2 q1 (by rw [List.dropWhile_cons, if_pos hd]; exact q2) (by rw [numV, if_pos hd]; exact q3) q4 q5)
    · have kd := mt isDg_t.mpr hd
      rw [show dgH (c :: q) = 0 by simp [dgH, hd]] at hdig
      refine E_aload_n dX9_readNumber_5 rfl ?_
      refine GX9_25 sk_145 dX9_readNumber_6 ?_
      refine E_aload_n dX9_readNumber_9 rfl ?_
      refine GX9_15 sk_145 dX9_readNumber_10 ?_
      refine E_icmp_ge 69 dX9_readNumber_13 (fun h13 => ?_) (fun h13 => ?_)
      · -- 69
        first | (exfalso; omega) | exact hk μ' e2 (by rw [List.dropWhile_cons, if_neg hd, e3]; simp; omega) (by rw [numV, if_neg hd]; exact e4) e7 e8
      · -- 16
        refine E_aload_n dX9_readNumber_16 rfl ?_
        refine E_aload_n dX9_readNumber_17 rfl ?_
        refine GX9_25 sk_145 dX9_readNumber_18 ?_
        rw [e3]
        refine E_callVR dX9_readNumber_21 lkX9_77 (Hp_get sk_145) (hdig) ?_
        refine E_if_eq 69 dX9_readNumber_24 (fun h24 => ?_) (fun h24 => ?_)
        · -- 69
          first | (exfalso; omega) | exact hk μ' e2 (by rw [List.dropWhile_cons, if_neg hd, e3]; simp; omega) (by rw [numV, if_neg hd]; exact e4) e7 e8
        · -- 27
          exfalso; omega
theorem rn_tail {μ2 : Mem} {a r : List Int} {c : Int} (hT : RepT μ t) (hx : txOk t) (ht : t = a ++ c :: r) (hc : isDg c = true) (ha : μ 145 2 = a.length) (hb : μ 145 4 = a.length) (kl : (t.length : Int) = a.length + 1 + r.length) (eR : tkR (c :: r) = (c :: r).dropWhile isDg) (k2 : t.length ≤ 100) (ka : μ2 146 a.length = c ∧ a.length < 100) (k4 : μ2 145 4 = μ 145 4) (q1 : RepT μ2 t) (q2 : μ2 145 2 = (t.length : Int) - ((c :: r).dropWhile isDg).length) (q3 : μ2 145 5 = numV 0 (c :: r)) (q4 : ∀ j : Int, j ≠ 2 → j ≠ 5 → μ2 145 j = μ 145 j) (q5 : Off 145 1 μ μ2) :
    E G mX9_readNumber (Zq G mX9_readNumber (V0 (fun μ' => RepT μ' t ∧ μ' 145 2 = (t.length : Int) - (tkR (c :: r)).length ∧ μ' 145 5 = tkV (c :: r) ∧ (∀ j : Int, j ≠ 2 → j ≠ 5 → μ' 145 j = μ 145 j) ∧ Off 145 1 μ μ'))) 0 0 69 [.ref 145, .retAddr 0] [] (Hp μ2) := by
  have kd := isDg_t.mp hc
  have kz : (c = 48 ∧ ((c :: r).dropWhile isDg).length < r.length) ∨ (¬ (c = 48 ∧ ((c :: r).dropWhile isDg).length < r.length)) := by omega
  have kdl : ((c :: r).dropWhile isDg).length ≤ r.length := by rw [List.dropWhile_cons, if_pos hc]; exact dw_len r
  have kT : c = 48 → ((c :: r).dropWhile isDg).length < r.length → tkV (c :: r) = 1000 := by
    intro h1 h2
    rw [List.dropWhile_cons, if_pos hc] at h2
    cases r with
    | nil => simp at h2
    | cons d r =>
      by_cases hd : isDg d = true
      · simp [tkV, h1, hd]
      · rw [List.dropWhile_cons, if_neg hd] at h2; omega
  have kF : ¬ (c = 48 ∧ ((c :: r).dropWhile isDg).length < r.length) → tkV (c :: r) = numV 0 (c :: r) := by
    intro h1
    rw [List.dropWhile_cons, if_pos hc] at h1
    cases r with
    | nil => simp [tkV]
    | cons d r =>
      simp only [tkV]
      rw [if_neg]
      rintro ⟨h2, h3⟩
      apply h1
      refine ⟨h2, ?_⟩
      rw [List.dropWhile_cons, if_pos h3]
      have := dw_len (p := isDg) r
      simp; omega
  refine E_aload_n dX9_readNumber_69 rfl ?_
  refine E_aload_n dX9_readNumber_70 rfl ?_
  refine GX9_47 sk_145 dX9_readNumber_71 ?_
  rw [k4, hb]
  refine E_callVR dX9_readNumber_74 lkX9_73 (Hp_get sk_145) (c_byteAt (p := (a.length : Int)) (by omega)) ?_
  rw [ka.1]
  refine E_bipush dX9_readNumber_77 ?_
  refine E_icmp_ne 99 dX9_readNumber_79 (fun h79 => ?_) (fun h79 => ?_)
  · -- 99
    refine E_iconst dX9_readNumber_99 ?_
    refine E_istore_n dX9_readNumber_100 ?_
    refine E_iload_n dX9_readNumber_101 rfl ?_
    refine E_if_eq 112 dX9_readNumber_102 (fun h102 => ?_) (fun h102 => ?_)
    · -- 112
      refine E_vret dX9_readNumber_112 ?_
      first | exact ⟨rfl, _, rfl, q1, by rw [eR]; exact q2, by rw [kF (by omega)]; exact q3, q4, q5⟩ | (exfalso; omega) | exact ⟨rfl, _, rfl, ⟨by rw [up_r, if_neg (by omega)]; exact q1.1, q1.2.1, q1.2.2.kept (up_ne 146 (by decide))⟩, by rw [up_r, if_neg (by omega), eR]; exact q2, by rw [up_r, if_pos rfl, kT (by omega) (by omega)], fun j j2 j5 => by rw [up_r, if_neg j5]; exact q4 j j2 j5, q5.up (by omega) (by omega)⟩
    · -- 105
      refine E_aload_n dX9_readNumber_105 rfl ?_
      refine E_sipush dX9_readNumber_106 ?_
      refine PX9_60 sk_145 dX9_readNumber_109 ?_
      refine E_vret dX9_readNumber_112 ?_
      first | exact ⟨rfl, _, rfl, q1, by rw [eR]; exact q2, by rw [kF (by omega)]; exact q3, q4, q5⟩ | (exfalso; omega) | exact ⟨rfl, _, rfl, ⟨by rw [up_r, if_neg (by omega)]; exact q1.1, q1.2.1, q1.2.2.kept (up_ne 146 (by decide))⟩, by rw [up_r, if_neg (by omega), eR]; exact q2, by rw [up_r, if_pos rfl, kT (by omega) (by omega)], fun j j2 j5 => by rw [up_r, if_neg j5]; exact q4 j j2 j5, q5.up (by omega) (by omega)⟩
  · -- 82
    refine E_aload_n dX9_readNumber_82 rfl ?_
    refine GX9_25 sk_145 dX9_readNumber_83 ?_
    refine E_aload_n dX9_readNumber_86 rfl ?_
    refine GX9_47 sk_145 dX9_readNumber_87 ?_
    refine E_iconst dX9_readNumber_90 ?_
    refine E_iadd dX9_readNumber_91 ?_
    refine E_icmp_le 99 dX9_readNumber_92 (fun h92 => ?_) (fun h92 => ?_)
    · -- 99
      refine E_iconst dX9_readNumber_99 ?_
      refine E_istore_n dX9_readNumber_100 ?_
      refine E_iload_n dX9_readNumber_101 rfl ?_
      refine E_if_eq 112 dX9_readNumber_102 (fun h102 => ?_) (fun h102 => ?_)
      · -- 112
        refine E_vret dX9_readNumber_112 ?_
        first | exact ⟨rfl, _, rfl, q1, by rw [eR]; exact q2, by rw [kF (by omega)]; exact q3, q4, q5⟩ | (exfalso; omega) | exact ⟨rfl, _, rfl, ⟨by rw [up_r, if_neg (by omega)]; exact q1.1, q1.2.1, q1.2.2.kept (up_ne 146 (by decide))⟩, by rw [up_r, if_neg (by omega), eR]; exact q2, by rw [up_r, if_pos rfl, kT (by omega) (by omega)], fun j j2 j5 => by rw [up_r, if_neg j5]; exact q4 j j2 j5, q5.up (by omega) (by omega)⟩
      · -- 105
        refine E_aload_n dX9_readNumber_105 rfl ?_
        refine E_sipush dX9_readNumber_106 ?_
        refine PX9_60 sk_145 dX9_readNumber_109 ?_
        refine E_vret dX9_readNumber_112 ?_
        first | exact ⟨rfl, _, rfl, q1, by rw [eR]; exact q2, by rw [kF (by omega)]; exact q3, q4, q5⟩ | (exfalso; omega) | exact ⟨rfl, _, rfl, ⟨by rw [up_r, if_neg (by omega)]; exact q1.1, q1.2.1, q1.2.2.kept (up_ne 146 (by decide))⟩, by rw [up_r, if_neg (by omega), eR]; exact q2, by rw [up_r, if_pos rfl, kT (by omega) (by omega)], fun j j2 j5 => by rw [up_r, if_neg j5]; exact q4 j j2 j5, q5.up (by omega) (by omega)⟩
    · -- 95
      refine E_iconst dX9_readNumber_95 ?_
      refine E_goto 100 dX9_readNumber_96 ?_
      refine E_istore_n dX9_readNumber_100 ?_
      refine E_iload_n dX9_readNumber_101 rfl ?_
      refine E_if_eq 112 dX9_readNumber_102 (fun h102 => ?_) (fun h102 => ?_)
      · -- 112
        refine E_vret dX9_readNumber_112 ?_
        first | exact ⟨rfl, _, rfl, q1, by rw [eR]; exact q2, by rw [kF (by omega)]; exact q3, q4, q5⟩ | (exfalso; omega) | exact ⟨rfl, _, rfl, ⟨by rw [up_r, if_neg (by omega)]; exact q1.1, q1.2.1, q1.2.2.kept (up_ne 146 (by decide))⟩, by rw [up_r, if_neg (by omega), eR]; exact q2, by rw [up_r, if_pos rfl, kT (by omega) (by omega)], fun j j2 j5 => by rw [up_r, if_neg j5]; exact q4 j j2 j5, q5.up (by omega) (by omega)⟩
      · -- 105
        refine E_aload_n dX9_readNumber_105 rfl ?_
        refine E_sipush dX9_readNumber_106 ?_
        refine PX9_60 sk_145 dX9_readNumber_109 ?_
        refine E_vret dX9_readNumber_112 ?_
        first | exact ⟨rfl, _, rfl, q1, by rw [eR]; exact q2, by rw [kF (by omega)]; exact q3, q4, q5⟩ | (exfalso; omega) | exact ⟨rfl, _, rfl, ⟨by rw [up_r, if_neg (by omega)]; exact q1.1, q1.2.1, q1.2.2.kept (up_ne 146 (by decide))⟩, by rw [up_r, if_neg (by omega), eR]; exact q2, by rw [up_r, if_pos rfl, kT (by omega) (by omega)], fun j j2 j5 => by rw [up_r, if_neg j5]; exact q4 j j2 j5, q5.up (by omega) (by omega)⟩
theorem tkV_1 {c d : Int} {r : List Int} (h : c = 48) (h2 : isDg d = true) : tkV (c :: d :: r) = 1000 := by simp [tkV, h, h2]
theorem c_readNumber {a r : List Int} {c : Int} (hT : RepT μ t) (hx : txOk t) (ht : t = a ++ c :: r) (hc : isDg c = true) (ha : μ 145 2 = a.length) (hb : μ 145 4 = a.length) : Ctr G mX9_readNumber [.ref 145] (Hp μ) (V0 (fun μ' => RepT μ' t ∧ μ' 145 2 = (t.length : Int) - (tkR (c :: r)).length ∧ μ' 145 5 = tkV (c :: r) ∧ (∀ j : Int, j ≠ 2 → j ≠ 5 → μ' 145 j = μ 145 j) ∧ Off 145 1 μ μ')) := by
  refine Ctr.of ?_
  have kl : (t.length : Int) = a.length + 1 + r.length := by rw [ht]; simp; omega
  have eR : tkR (c :: r) = (c :: r).dropWhile isDg := by simp [tkR, hc]
  have k2 := hT.2.1
  refine E_aload_n dX9_readNumber_0 rfl ?_
  refine E_iconst dX9_readNumber_1 ?_
  refine PX9_60 sk_145 dX9_readNumber_2 ?_
  refine rn_loop (G := G) (μ := μ) hx (c :: r) a 0 (up μ 145 5 0) ht ⟨by rw [up_r, if_neg (by omega)]; exact hT.1, hT.2.1, hT.2.2.kept (up_ne 146 (by decide))⟩ (by rw [up_r, if_neg (by omega)]; exact ha) (by rw [up_r, if_pos rfl]) (by omega) (by omega) (fun j j2 j5 => by rw [up_r, if_neg j5]) (Off.rf.up (by omega) (by omega)) (fun μ2 q1 q2 q3 q4 q5 => ?_)
  have ka := txt_at q1 ht
  have k4 := q4 4 (by omega) (by omega)
  have kdl := dw_len (p := isDg) (c :: r)
  exact rn_tail hT hx ht hc ha hb kl eR k2 ka k4 q1 q2 q3 q4 q5
/-- behind the blanks -/
theorem adv_tail {a r : List Int} (hT : RepT μ t) (hx : txOk t) (ht : t = a ++ r) (ha : μ 145 2 = a.length) :
    E G mX9_advance (Zq G mX9_advance (V0 (fun μ' => TkS μ' t r ∧ (∀ j : Int, 6 ≤ j → μ' 145 j = μ 145 j) ∧ Off 145 1 μ μ'))) 0 0 37 [.ref 145] [] (Hp μ) := by
  have k1 := hT.1
  have k2 := hT.2.1
  cases r with
  | nil =>
    simp only [List.append_nil] at ht
    subst ht
    have hdig := fun (μ' : Mem) (hT' : RepT μ' t) => c_isDigit (G := G) hT' hx (a := t) (r := []) (by simp)
    have hT1 : RepT (up (up μ 145 4 (t.length : Int)) 145 3 257) t := ⟨by rw [up_r, if_neg (by omega), up_r, if_neg (by omega)]; exact k1, k2, hT.2.2.kept (by rw [up_ne 146 (by decide), up_ne 146 (by decide)])⟩
    refine E_aload_n dX9_advance_37 rfl ?_
    refine E_aload_n dX9_advance_38 rfl ?_
    refine GX9_25 sk_145 dX9_advance_39 ?_
    rw [ha]
    refine PX9_47 sk_145 dX9_advance_42 ?_
    refine E_aload_n dX9_advance_45 rfl ?_
    refine E_aload_n dX9_advance_46 rfl ?_
    refine GX9_25 sk_145 dX9_advance_47 ?_
    rw [up_r, if_neg (by omega), ha]
    refine E_aload_n dX9_advance_50 rfl ?_
    refine GX9_15 sk_145 dX9_advance_51 ?_
    rw [up_r, if_neg (by omega), k1]
    refine E_icmp_ge 68 dX9_advance_54 (fun h54 => ?_) (fun h54 => ?_)
    · -- 68
      refine E_sipush dX9_advance_68 ?_
      refine PX9_40 sk_145 dX9_advance_71 ?_
      refine E_aload_n dX9_advance_74 rfl ?_
      refine E_aload_n dX9_advance_75 rfl ?_
      refine GX9_25 sk_145 dX9_advance_76 ?_
      rw [up_r, if_neg (by omega), up_r, if_neg (by omega), ha]
      refine E_callVR dX9_advance_79 lkX9_77 (Hp_get sk_145) (hdig _ hT1) ?_
      rw [show dgH [] = 0 from rfl]
      refine E_if_eq 99 dX9_advance_82 (fun h82 => ?_) (fun h82 => ?_)
      · -- 99
        refine E_aload_n dX9_advance_99 rfl ?_
        refine GX9_25 sk_145 dX9_advance_100 ?_
        rw [up_r, if_neg (by omega), up_r, if_neg (by omega), ha]
        refine E_aload_n dX9_advance_103 rfl ?_
        refine GX9_15 sk_145 dX9_advance_104 ?_
        rw [up_r, if_neg (by omega), up_r, if_neg (by omega), k1]
        refine E_icmp_ge 120 dX9_advance_107 (fun h107 => ?_) (fun h107 => ?_)
        · -- 120
          refine E_vret dX9_advance_120 ?_
          refine ⟨rfl, _, rfl, ⟨hT1, by rw [up_r, if_pos rfl]; rfl, by rw [up_r, if_neg (by omega), up_r, if_pos rfl]; simp, by rw [up_r, if_neg (by omega), up_r, if_neg (by omega), ha]; simp [tkR], fun q => by simp [tkK] at q, t, by simp⟩, fun j j6 => by rw [up_r, if_neg (by omega), up_r, if_neg (by omega)], (Off.rf.up (by omega) (by omega)).up (by omega) (by omega)⟩
        · -- 110
          exfalso; omega
      · -- 85
        exact absurd rfl h82
    · -- 57
      exfalso; omega
  | cons c r =>
    have ka := txt_at hT ht
    have kc := hx c (by rw [ht]; simp)
    have kl : (t.length : Int) = a.length + 1 + r.length := by rw [ht]; simp; omega
    have hT1 : ∀ v, RepT (up (up μ 145 4 (a.length : Int)) 145 3 v) t := fun v => ⟨by rw [up_r, if_neg (by omega), up_r, if_neg (by omega)]; exact k1, k2, hT.2.2.kept (by rw [up_ne 146 (by decide), up_ne 146 (by decide)])⟩
    have hdig := c_isDigit (G := G) (hT1 c) hx ht
    by_cases hd : isDg c = true
    · rw [show dgH (c :: r) = 1 by simp [dgH, hd]] at hdig
      refine E_aload_n dX9_advance_37 rfl ?_
      refine E_aload_n dX9_advance_38 rfl ?_
      refine GX9_25 sk_145 dX9_advance_39 ?_
      rw [ha]
      refine PX9_47 sk_145 dX9_advance_42 ?_
      refine E_aload_n dX9_advance_45 rfl ?_
      refine E_aload_n dX9_advance_46 rfl ?_
      refine GX9_25 sk_145 dX9_advance_47 ?_
      rw [up_r, if_neg (by omega), ha]
      refine E_aload_n dX9_advance_50 rfl ?_
      refine GX9_15 sk_145 dX9_advance_51 ?_
      rw [up_r, if_neg (by omega), k1]
      refine E_icmp_ge 68 dX9_advance_54 (fun h54 => ?_) (fun h54 => ?_)
      · -- 68
        exfalso; omega
      · -- 57
        refine E_aload_n dX9_advance_57 rfl ?_
        refine E_aload_n dX9_advance_58 rfl ?_
        refine GX9_25 sk_145 dX9_advance_59 ?_
        rw [up_r, if_neg (by omega), ha]
        refine E_callVR dX9_advance_62 lkX9_73 (Hp_get sk_145) (c_byteAt (p := (a.length : Int)) (by omega)) ?_
        refine E_goto 71 dX9_advance_65 ?_
        rw [up_ne 146 (by decide), ka.1]
        refine PX9_40 sk_145 dX9_advance_71 ?_
        refine E_aload_n dX9_advance_74 rfl ?_
        refine E_aload_n dX9_advance_75 rfl ?_
        refine GX9_25 sk_145 dX9_advance_76 ?_
        rw [up_r, if_neg (by omega), up_r, if_neg (by omega), ha]
        refine E_callVR dX9_advance_79 lkX9_77 (Hp_get sk_145) (hdig) ?_
        refine E_if_eq 99 dX9_advance_82 (fun h82 => ?_) (fun h82 => ?_)
        · -- 99
          exact absurd h82 (by decide)
        · -- 85
          refine E_aload_n dX9_advance_85 rfl ?_
          refine E_sipush dX9_advance_86 ?_
          refine PX9_40 sk_145 dX9_advance_89 ?_
          refine E_aload_n dX9_advance_92 rfl ?_
          have hT3 : RepT (up (up (up μ 145 4 (a.length : Int)) 145 3 c) 145 3 256) t := ⟨by rw [up_r, if_neg (by omega)]; exact (hT1 c).1, k2, (hT1 c).2.2.kept (up_ne 146 (by decide))⟩
          refine E_callVV dX9_advance_93 lkX9_81 (Hp_get sk_145) (c_readNumber hT3 hx ht hd (by rw [up_r, if_neg (by omega), up_r, if_neg (by omega), up_r, if_neg (by omega)]; exact ha) (by rw [up_r, if_neg (by omega), up_r, if_neg (by omega), up_r, if_pos rfl])) ?_
          rintro μ2 ⟨q1, q2, q3, q4, q5⟩
          refine E_goto 120 dX9_advance_96 ?_
          refine E_vret dX9_advance_120 ?_
          refine ⟨rfl, _, rfl, ⟨q1, by rw [q4 3 (by omega) (by omega), up_r, if_pos rfl]; simp [tkK, hd], by rw [q4 4 (by omega) (by omega), up_r, if_neg (by omega), up_r, if_neg (by omega), up_r, if_pos rfl]; simp; omega, q2, fun _ => q3, a, ht⟩, fun j j6 => by rw [q4 j (by omega) (by omega), up_r, if_neg (by omega), up_r, if_neg (by omega), up_r, if_neg (by omega)], (((Off.rf.up (by omega) (by omega)).up (by omega) (by omega)).up (by omega) (by omega)).tr q5⟩
    · rw [show dgH (c :: r) = 0 by simp [dgH, hd]] at hdig
      refine E_aload_n dX9_advance_37 rfl ?_
      refine E_aload_n dX9_advance_38 rfl ?_
      refine GX9_25 sk_145 dX9_advance_39 ?_
      rw [ha]
      refine PX9_47 sk_145 dX9_advance_42 ?_
      refine E_aload_n dX9_advance_45 rfl ?_
      refine E_aload_n dX9_advance_46 rfl ?_
      refine GX9_25 sk_145 dX9_advance_47 ?_
      rw [up_r, if_neg (by omega), ha]
      refine E_aload_n dX9_advance_50 rfl ?_
      refine GX9_15 sk_145 dX9_advance_51 ?_
      rw [up_r, if_neg (by omega), k1]
      refine E_icmp_ge 68 dX9_advance_54 (fun h54 => ?_) (fun h54 => ?_)
      · -- 68
        exfalso; omega
      · -- 57
        refine E_aload_n dX9_advance_57 rfl ?_
        refine E_aload_n dX9_advance_58 rfl ?_
        refine GX9_25 sk_145 dX9_advance_59 ?_
        rw [up_r, if_neg (by omega), ha]
        refine E_callVR dX9_advance_62 lkX9_73 (Hp_get sk_145) (c_byteAt (p := (a.length : Int)) (by omega)) ?_
        refine E_goto 71 dX9_advance_65 ?_
        rw [up_ne 146 (by decide), ka.1]
        refine PX9_40 sk_145 dX9_advance_71 ?_
        refine E_aload_n dX9_advance_74 rfl ?_
        refine E_aload_n dX9_advance_75 rfl ?_
        refine GX9_25 sk_145 dX9_advance_76 ?_
        rw [up_r, if_neg (by omega), up_r, if_neg (by omega), ha]
        refine E_callVR dX9_advance_79 lkX9_77 (Hp_get sk_145) (hdig) ?_
        refine E_if_eq 99 dX9_advance_82 (fun h82 => ?_) (fun h82 => ?_)
        · -- 99
          refine E_aload_n dX9_advance_99 rfl ?_
          refine GX9_25 sk_145 dX9_advance_100 ?_
          rw [up_r, if_neg (by omega), up_r, if_neg (by omega), ha]
          refine E_aload_n dX9_advance_103 rfl ?_
          refine GX9_15 sk_145 dX9_advance_104 ?_
          rw [up_r, if_neg (by omega), up_r, if_neg (by omega), k1]
          refine E_icmp_ge 120 dX9_advance_107 (fun h107 => ?_) (fun h107 => ?_)
          · -- 120
            refine E_vret dX9_advance_120 ?_
            first | (exfalso; omega) | refine ⟨rfl, _, rfl, ⟨⟨by rw [up_r, if_neg (by omega)]; exact (hT1 c).1, k2, (hT1 c).2.2.kept (up_ne 146 (by decide))⟩, by rw [up_r, if_neg (by omega), up_r, if_pos rfl]; simp [tkK, hd], by rw [up_r, if_neg (by omega), up_r, if_neg (by omega), up_r, if_pos rfl]; simp; omega, by rw [up_r, if_pos rfl]; simp [tkR, hd]; omega, fun q => by simp [tkK, hd] at q; omega, a, ht⟩, fun j j6 => by rw [up_r, if_neg (by omega), up_r, if_neg (by omega), up_r, if_neg (by omega)], ((Off.rf.up (by omega) (by omega)).up (by omega) (by omega)).up (by omega) (by omega)⟩
          · -- 110
            refine E_aload_n dX9_advance_110 rfl ?_
            refine E_dup dX9_advance_111 ?_
            refine GX9_25 sk_145 dX9_advance_112 ?_
            rw [up_r, if_neg (by omega), up_r, if_neg (by omega), ha]
            refine E_iconst dX9_advance_115 ?_
            refine E_iadd dX9_advance_116 ?_
            refine PX9_25 sk_145 dX9_advance_117 ?_
            refine E_vret dX9_advance_120 ?_
            first | (exfalso; omega) | refine ⟨rfl, _, rfl, ⟨⟨by rw [up_r, if_neg (by omega)]; exact (hT1 c).1, k2, (hT1 c).2.2.kept (up_ne 146 (by decide))⟩, by rw [up_r, if_neg (by omega), up_r, if_pos rfl]; simp [tkK, hd], by rw [up_r, if_neg (by omega), up_r, if_neg (by omega), up_r, if_pos rfl]; simp; omega, by rw [up_r, if_pos rfl]; simp [tkR, hd]; omega, fun q => by simp [tkK, hd] at q; omega, a, ht⟩, fun j j6 => by rw [up_r, if_neg (by omega), up_r, if_neg (by omega), up_r, if_neg (by omega)], ((Off.rf.up (by omega) (by omega)).up (by omega) (by omega)).up (by omega) (by omega)⟩
        · -- 85
          exact absurd rfl h82
theorem adv_loop (hx : txOk t) : ∀ (r a : List Int) (μ' : Mem), RepT μ' t → t = a ++ r → μ' 145 2 = a.length → (∀ j : Int, 6 ≤ j → μ' 145 j = μ 145 j) → Off 145 1 μ μ' →
    E G mX9_advance (Zq G mX9_advance (V0 (fun μ' => TkS μ' t (skipB r) ∧ (∀ j : Int, 6 ≤ j → μ' 145 j = μ 145 j) ∧ Off 145 1 μ μ'))) 0 0 0 [.ref 145] [] (Hp μ') := by
  intro r
  induction r with
  | nil =>
    intro a μ' e1 e2 e3 e4 e5
    have k1 := e1.1
    have k2 := e1.2.1
    have kl : (t.length : Int) = a.length := by rw [e2]; simp
    refine E_aload_n dX9_advance_0 rfl ?_
    refine GX9_25 sk_145 dX9_advance_1 ?_
    refine E_aload_n dX9_advance_4 rfl ?_
    refine GX9_15 sk_145 dX9_advance_5 ?_
    refine E_icmp_ge 37 dX9_advance_8 (fun h8 => ?_) (fun h8 => ?_)
    · -- 37
      refine E_mono ?_ (adv_tail (G := G) e1 hx e2 e3)
      rintro v M ⟨hv, μ2, hM, g1, g2, g3⟩
      exact ⟨hv, μ2, hM, g1, fun j j6 => (g2 j j6).trans (e4 j j6), e5.tr g3⟩
    · -- 11
      exfalso; omega
  | cons c r ih =>
    intro a μ' e1 e2 e3 e4 e5
    have k1 := e1.1
    have k2 := e1.2.1
    have ka := txt_at e1 e2
    have kc := hx c (by rw [e2]; simp)
    have kl : (t.length : Int) = a.length + 1 + r.length := by rw [e2]; simp; omega
    have f0 : c ≠ 32 → skipB (c :: r) = c :: r := fun h => by simp [skipB, List.dropWhile_cons, h]
    have f1 : c = 32 → skipB (c :: r) = skipB r := fun h => by simp [skipB, List.dropWhile_cons, h]
    refine E_aload_n dX9_advance_0 rfl ?_
    refine GX9_25 sk_145 dX9_advance_1 ?_
    refine E_aload_n dX9_advance_4 rfl ?_
    refine GX9_15 sk_145 dX9_advance_5 ?_
    refine E_icmp_ge 37 dX9_advance_8 (fun h8 => ?_) (fun h8 => ?_)
    · -- 37
      first | (exfalso; omega) | (rw [f0 (by omega)]; refine E_mono ?_ (adv_tail (G := G) e1 hx e2 e3); rintro v M ⟨hv, μ2, hM, g1, g2, g3⟩; exact ⟨hv, μ2, hM, g1, fun j j6 => (g2 j j6).trans (e4 j j6), e5.tr g3⟩)
    · -- 11
      refine E_aload_n dX9_advance_11 rfl ?_
      refine E_aload_n dX9_advance_12 rfl ?_
      refine GX9_25 sk_145 dX9_advance_13 ?_
      rw [e3]
      refine E_callVR dX9_advance_16 lkX9_73 (Hp_get sk_145) (c_byteAt (p := (a.length : Int)) (by omega)) ?_
      rw [ka.1]
      refine E_bipush dX9_advance_19 ?_
      refine E_icmp_ne 37 dX9_advance_21 (fun h21 => ?_) (fun h21 => ?_)
      · -- 37
        first | (exfalso; omega) | (rw [f0 (by omega)]; refine E_mono ?_ (adv_tail (G := G) e1 hx e2 e3); rintro v M ⟨hv, μ2, hM, g1, g2, g3⟩; exact ⟨hv, μ2, hM, g1, fun j j6 => (g2 j j6).trans (e4 j j6), e5.tr g3⟩)
      · -- 24
        refine E_aload_n dX9_advance_24 rfl ?_
        refine E_dup dX9_advance_25 ?_
        refine GX9_25 sk_145 dX9_advance_26 ?_
        rw [e3]
        refine E_iconst dX9_advance_29 ?_
        refine E_iadd dX9_advance_30 ?_
        refine PX9_25 sk_145 dX9_advance_31 ?_
        refine E_goto 0 dX9_advance_34 ?_
        rw [f1 (by omega)]
        exact ih (a ++ [c]) _ ⟨by rw [up_r, if_neg (by omega)]; exact k1, k2, e1.2.2.kept (up_ne 146 (by decide))⟩ (by rw [e2]; simp) (by rw [up_r, if_pos rfl]; simp) (fun j j6 => by rw [up_r, if_neg (by omega)]; exact e4 j j6) (e5.up (by omega) (by omega))
theorem c_adv0 {r a : List Int} (hT : RepT μ t) (hx : txOk t) (ht : t = a ++ r) (ha : μ 145 2 = a.length) : Ctr G mX9_advance [.ref 145] (Hp μ) (V0 (fun μ' => TkS μ' t (skipB r) ∧ (∀ j : Int, 6 ≤ j → μ' 145 j = μ 145 j) ∧ Off 145 1 μ μ')) := by
  refine Ctr.of ?_
  exact adv_loop (μ := μ) hx r a μ hT ht ha (fun _ _ => rfl) Off.rf
theorem c_advance {r : List Int} (hS : TkS μ t r) (hx : txOk t) : Ctr G mX9_advance [.ref 145] (Hp μ) (V0 (fun μ' => TkS μ' t (nxt r) ∧ (∀ j : Int, 6 ≤ j → μ' 145 j = μ 145 j) ∧ Off 145 1 μ μ')) := by
  obtain ⟨k1, k2, k3, k4, k5, a, k6⟩ := hS
  obtain ⟨b, hb⟩ := tkR_suf r
  refine c_adv0 k1 hx (a := a ++ b) (r := tkR r) (by rw [List.append_assoc, ← hb]; exact k6) ?_
  rw [k4, k6]
  have := congrArg List.length hb
  simp at this
  simp; omega
theorem c_isNumber {r : List Int} {lo hi : Int} (hS : TkS μ t r) (hx : txOk r) (hl : -1000 ≤ lo ∧ lo ≤ 1000) (hh : -1000 ≤ hi ∧ hi ≤ 1000) : Ctr G mX9_isNumber [.ref 145, vi lo, vi hi] (Hp μ) (R1 (vi (if tkK r = 256 ∧ lo ≤ tkV r ∧ tkV r ≤ hi then 1 else 0)) (Hp μ)) := by
  refine Ctr.of ?_
  obtain ⟨k1, k2, k3, k4, k5, k6⟩ := hS
  have kr := tkK_rng hx
  have kv := tkV_rng r
  by_cases hk : tkK r = 256
  · have k7 := k5 hk
    refine E_aload_n dX9_isNumber_0 rfl ?_
    refine GX9_40 sk_145 dX9_isNumber_1 ?_
    refine E_sipush dX9_isNumber_4 ?_
    refine E_icmp_ne 30 dX9_isNumber_7 (fun h7 => ?_) (fun h7 => ?_)
    · -- 30
      refine E_iconst dX9_isNumber_30 ?_
      refine E_zret dX9_isNumber_31 ?_ (by first | exact Or.inl rfl | exact Or.inr rfl | omega)
      first | (rw [if_pos (by omega)]; exact ⟨rfl, rfl⟩) | (rw [if_neg (by omega)]; exact ⟨rfl, rfl⟩)
    · -- 10
      refine E_aload_n dX9_isNumber_10 rfl ?_
      refine GX9_60 sk_145 dX9_isNumber_11 ?_
      refine E_iload_n dX9_isNumber_14 rfl ?_
      refine E_icmp_lt 30 dX9_isNumber_15 (fun h15 => ?_) (fun h15 => ?_)
      · -- 30
        refine E_iconst dX9_isNumber_30 ?_
        refine E_zret dX9_isNumber_31 ?_ (by first | exact Or.inl rfl | exact Or.inr rfl | omega)
        first | (rw [if_pos (by omega)]; exact ⟨rfl, rfl⟩) | (rw [if_neg (by omega)]; exact ⟨rfl, rfl⟩)
      · -- 18
        refine E_aload_n dX9_isNumber_18 rfl ?_
        refine GX9_60 sk_145 dX9_isNumber_19 ?_
        refine E_iload_n dX9_isNumber_22 rfl ?_
        refine E_icmp_gt 30 dX9_isNumber_23 (fun h23 => ?_) (fun h23 => ?_)
        · -- 30
          refine E_iconst dX9_isNumber_30 ?_
          refine E_zret dX9_isNumber_31 ?_ (by first | exact Or.inl rfl | exact Or.inr rfl | omega)
          first | (rw [if_pos (by omega)]; exact ⟨rfl, rfl⟩) | (rw [if_neg (by omega)]; exact ⟨rfl, rfl⟩)
        · -- 26
          refine E_iconst dX9_isNumber_26 ?_
          refine E_goto 31 dX9_isNumber_27 ?_
          refine E_zret dX9_isNumber_31 ?_ (by first | exact Or.inl rfl | exact Or.inr rfl | omega)
          first | (rw [if_pos (by omega)]; exact ⟨rfl, rfl⟩) | (rw [if_neg (by omega)]; exact ⟨rfl, rfl⟩)
  · skip
    refine E_aload_n dX9_isNumber_0 rfl ?_
    refine GX9_40 sk_145 dX9_isNumber_1 ?_
    refine E_sipush dX9_isNumber_4 ?_
    refine E_icmp_ne 30 dX9_isNumber_7 (fun h7 => ?_) (fun h7 => ?_)
    · -- 30
      refine E_iconst dX9_isNumber_30 ?_
      refine E_zret dX9_isNumber_31 ?_ (by first | exact Or.inl rfl | exact Or.inr rfl | omega)
      rw [if_neg (by omega)]; exact ⟨rfl, rfl⟩
    · -- 10
      exfalso; omega
/-! the grammar -/
abbrev PS : Type := Int × Int × Int × Sp
/-- items, pairs, crooked pairs, draft -/
def kB (r : List Int) : Int := if tkK r = 111 then 0 else 1
def inN (r : List Int) (lo hi : Int) : Prop := tkK r = 256 ∧ lo ≤ tkV r ∧ tkV r ≤ hi
def mostA (cr : Int) : Int := if cr < 6 then 30 else 1
def rB (r : List Int) : List Int := if tkK (nxt (nxt r)) = 45 then nxt (nxt (nxt r)) else nxt (nxt r)
def sB (r : List Int) : Int := if tkK (nxt (nxt r)) = 45 then -1 else 1
def okB (r : List Int) : Prop := inN (nxt r) (kB r) 4
def okP1 (r : List Int) (cr : Int) : Prop := inN (nxt r) 1 (mostA cr)
def okP2 (r : List Int) : Prop := inN (rB r) 0 99 ∧ Int.gcd (tkV (nxt r)) (tkV (rB r)) = 1
theorem suf_ok {t r a : List Int} (h : t = a ++ r) (hx : txOk t) : txOk r := fun c hc => hx c (by rw [h]; simp [hc])
theorem TkS.ok {r : List Int} (h : TkS μ t r) (hx : txOk t) : txOk r := by
  obtain ⟨-, -, -, -, -, a, ha⟩ := h
  exact suf_ok ha hx
theorem c_readBase {r : List Int} (hf : isSp f) (hfd : f + 3 ≤ 145 ∨ 147 ≤ f) (hS : TkS μ t r) (hx : txOk t) (hk : tkK r = 111 ∨ tkK r = 110) : Ctr G mX9_readBase [.ref 145, .ref f] (Hp μ) (fun v M' => ∃ μ', M' = Hp μ' ∧ (∀ j : Int, 6 ≤ j → μ' 145 j = μ 145 j) ∧ (∀ q : Nat, q ≠ 145 → (q < f ∨ f + 3 ≤ q) → μ' q = μ q) ∧ ((okB r ∧ v = some (vi 1) ∧ TkS μ' t (nxt (nxt r)) ∧ RepD μ' f (kB r, tkV (nxt r), 0, [])) ∨ (¬ okB r ∧ v = some (vi 0) ∧ TkS μ' t (nxt r)))) := by
  refine Ctr.of ?_
  have ks := hS.2.1
  have kr := tkK_rng (hS.ok hx)
  have kb : kB r = 0 ∨ kB r = 1 := by unfold kB; split <;> simp
  have kb0 : tkK r = 111 → kB r = 0 := fun h => if_pos h
  have kb1 : tkK r ≠ 111 → kB r = 1 := fun h => if_neg h
  have fin : E G mX9_readBase (Zq G mX9_readBase (fun v M' => ∃ μ', M' = Hp μ' ∧ (∀ j : Int, 6 ≤ j → μ' 145 j = μ 145 j) ∧ (∀ q : Nat, q ≠ 145 → (q < f ∨ f + 3 ≤ q) → μ' q = μ q) ∧ ((okB r ∧ v = some (vi 1) ∧ TkS μ' t (nxt (nxt r)) ∧ RepD μ' f (kB r, tkV (nxt r), 0, [])) ∨ (¬ okB r ∧ v = some (vi 0) ∧ TkS μ' t (nxt r))))) 0 0 15 [.ref 145, .ref f, vi (kB r)] [] (Hp μ) := by
    refine E_aload_n dX9_readBase_15 rfl ?_
    refine E_callVV dX9_readBase_16 lkX9_37 (Hp_get sk_145) (c_advance hS hx) ?_
    rintro μ1 ⟨a1, a2, a3⟩
    have hnum := c_isNumber (G := G) (lo := kB r) (hi := 4) a1 (a1.ok hx) (by omega) (by omega)
    by_cases hok : okB r
    rotate_left
    · rw [if_neg (show ¬ (tkK (nxt r) = 256 ∧ kB r ≤ tkV (nxt r) ∧ tkV (nxt r) ≤ 4) from hok)] at hnum
      refine E_aload_n dX9_readBase_19 rfl ?_
      refine E_iload_n dX9_readBase_20 rfl ?_
      refine E_iconst dX9_readBase_21 ?_
      refine E_callVR dX9_readBase_22 lkX9_56 (Hp_get sk_145) hnum ?_
      refine E_if_ne 30 dX9_readBase_25 (fun q => absurd rfl q) (fun q => ?_)
      refine E_iconst dX9_readBase_28 ?_
      exact E_zret dX9_readBase_29 ⟨_, rfl, a2, fun q q1 q2 => a3 q (by omega), Or.inr ⟨hok, rfl, a1⟩⟩ (Or.inl rfl)
    rw [if_pos (show tkK (nxt r) = 256 ∧ kB r ≤ tkV (nxt r) ∧ tkV (nxt r) ≤ 4 from hok)] at hnum
    have kv := a1.2.2.2.2.1 hok.1
    refine E_aload_n dX9_readBase_19 rfl ?_
    refine E_iload_n dX9_readBase_20 rfl ?_
    refine E_iconst dX9_readBase_21 ?_
    refine E_callVR dX9_readBase_22 lkX9_56 (Hp_get sk_145) (hnum) ?_
    refine E_if_ne 30 dX9_readBase_25 (fun h25 => ?_) (fun h25 => ?_)
    · -- 30
      refine E_aload_n dX9_readBase_30 rfl ?_
      refine E_iload_n dX9_readBase_31 rfl ?_
      refine E_aload_n dX9_readBase_32 rfl ?_
      refine GX9_60 sk_145 dX9_readBase_33 ?_
      refine E_iconst dX9_readBase_36 ?_
      rw [kv]
      refine E_callVV dX9_readBase_37 lkX9_19 (Hp_get hf.1) (c_start hf) ?_
      rintro μ2 ⟨b1, b2⟩
      have b3 : TkS μ2 t (nxt r) := a1.kept (fun j j1 j5 => by rw [b2 145 (by omega)]) (b2 146 (by omega))
      refine E_aload_n dX9_readBase_40 rfl ?_
      refine E_callVV dX9_readBase_41 lkX9_37 (Hp_get sk_145) (c_advance b3 hx) ?_
      rintro μ3 ⟨d1, d2, d3⟩
      refine E_iconst dX9_readBase_44 ?_
      refine E_zret dX9_readBase_45 ?_ (by first | exact Or.inl rfl | exact Or.inr rfl | omega)
      refine ⟨_, rfl, fun j j6 => ?_, fun q q1 q2 => ?_, Or.inl ⟨hok, rfl, d1, ?_⟩⟩
      · rw [d2 j j6, b2 145 (by omega), a2 j j6]
      · rw [d3 q (by omega), b2 q (by omega), a3 q (by omega)]
      · exact b1.keptD (d3 f (by omega)) (d3 (f + 1) (by omega)) (d3 (f + 2) (by omega))
    · -- 28
      exact absurd h25 (by decide)
  refine E_aload_n dX9_readBase_0 rfl ?_
  refine GX9_40 sk_145 dX9_readBase_1 ?_
  refine E_bipush dX9_readBase_4 ?_
  refine E_icmp_ne 13 dX9_readBase_6 (fun h6 => ?_) (fun h6 => ?_)
  · -- 13
    refine E_iconst dX9_readBase_13 ?_
    refine E_istore_n dX9_readBase_14 ?_
    first | (have := fin; rw [kb0 (by omega)] at this; rw [kb0 (by omega)]; exact this) | (have := fin; rw [kb1 (by omega)] at this; rw [kb1 (by omega)]; exact this)
  · -- 9
    refine E_iconst dX9_readBase_9 ?_
    refine E_goto 14 dX9_readBase_10 ?_
    refine E_istore_n dX9_readBase_14 ?_
    first | (have := fin; rw [kb0 (by omega)] at this; rw [kb0 (by omega)]; exact this) | (have := fin; rw [kb1 (by omega)] at this; rw [kb1 (by omega)]; exact this)
/-- what a read pair leaves -/
def PairQ (μ : Mem) (t r : List Int) (f : Nat) (d : Sp) (pr cr : Int) (μ' : Mem) (v : Option Value) : Prop :=
  (okP1 r cr ∧ okP2 r ∧ v = some (vi 1) ∧ TkS μ' t (nxt (rB r)) ∧ RepD μ' f (put d (tkV (nxt r)) (sB r * tkV (rB r))) ∧ μ' 145 7 = pr + 1 ∧ μ' 145 8 = (if tkV (nxt r) = 1 then cr else cr + 1)) ∨
  (okP1 r cr ∧ ¬ okP2 r ∧ v = some (vi 0) ∧ TkS μ' t (rB r)) ∨ (¬ okP1 r cr ∧ v = some (vi 0) ∧ TkS μ' t (nxt r))
def PairR (μ : Mem) (t r : List Int) (f : Nat) (d : Sp) (pr cr : Int) : QT := fun v M' => ∃ μ', M' = Hp μ' ∧ μ' 145 6 = μ 145 6 ∧ (∀ q : Nat, q ≠ 145 → (q < f ∨ f + 3 ≤ q) → μ' q = μ q) ∧ PairQ μ t r f d pr cr μ' v
theorem pair_B {r : List Int} {d : Sp} {pr cr a : Int} {μ1 : Mem} (w2 : Int) (hf : isSp f) (hfd : f + 3 ≤ 145 ∨ 147 ≤ f) (hx : txOk t) (hd : RepD μ f d) (hdl : ∀ y ∈ d.2.2.2, smF y) (hpr : 0 ≤ pr ∧ pr ≤ 100) (hcr : 0 ≤ cr ∧ cr ≤ 100) (h7 : μ 145 7 = pr) (h8 : μ 145 8 = cr) (ho : okP1 r cr) (hpa : tkV (nxt r) = a) (ha : 1 ≤ a ∧ a ≤ 30)
    (hS : TkS μ1 t (rB r)) (a2 : ∀ j : Int, 6 ≤ j → μ1 145 j = μ 145 j) (a3 : Off 145 1 μ μ1) :
    E G mX9_readPair (Zq G mX9_readPair (PairR μ t r f d pr cr)) 0 0 59 [.ref 145, .ref f, vi w2, vi a, vi (sB r)] [] (Hp μ1) := by
  have hnum := c_isNumber (G := G) (lo := 0) (hi := 99) hS (hS.ok hx) (by omega) (by omega)
  have kv := tkV_rng (rB r)
  have ks : sB r = 1 ∨ sB r = -1 := by unfold sB; split <;> simp
  by_cases hn : inN (rB r) 0 99
  · rw [if_pos (show tkK (rB r) = 256 ∧ 0 ≤ tkV (rB r) ∧ tkV (rB r) ≤ 99 from hn)] at hnum
    have kv2 := hS.2.2.2.2.1 hn.1
    have kv3 := hn.2
    have kgl := Int.gcd_le_left (tkV (rB r)) (show 0 < a by omega)
    have kmul : -99 ≤ sB r * tkV (rB r) ∧ sB r * tkV (rB r) ≤ 99 := by rcases ks with h | h <;> rw [h] <;> omega
    have hd1 : RepD μ1 f d := hd.keptD (a3 f (by omega)) (a3 (f + 1) (by omega)) (a3 (f + 2) (by omega))
    refine E_aload_n dX9_readPair_59 rfl ?_
    refine E_iconst dX9_readPair_60 ?_
    refine E_bipush dX9_readPair_61 ?_
    refine E_callVR dX9_readPair_63 lkX9_56 (Hp_get sk_145) (hnum) ?_
    refine E_if_eq 84 dX9_readPair_66 (fun h66 => ?_) (fun h66 => ?_)
    · -- 84
      first | (exfalso; omega) | (refine E_iconst dX9_readPair_84 ?_; exact E_zret dX9_readPair_85 ⟨_, rfl, a2 6 (by omega), fun q q1 q2 => a3 q (by omega), Or.inr (Or.inl ⟨ho, fun q => by have := q.2; rw [hpa] at this; omega, rfl, hS⟩)⟩ (Or.inl rfl))
    · -- 69
      refine E_iload_n dX9_readPair_69 rfl ?_
      refine E_i2l dX9_readPair_70 ?_
      refine E_aload_n dX9_readPair_71 rfl ?_
      refine GX9_60 sk_145 dX9_readPair_72 ?_
      rw [kv2]
      refine E_i2l dX9_readPair_75 ?_
      refine E_callSR dX9_readPair_76 lkX9_63 (c_gcd (x := a) (z := tkV (rB r)) (by omega) (by omega)) ?_
      refine E_lconst1 dX9_readPair_79 ?_
      refine E_lcmp_eq 86 dX9_readPair_80 dX9_readPair_81 (fun h80 => ?_) (fun h80 => ?_)
      · -- 86
        refine E_aload_n dX9_readPair_86 rfl ?_
        refine E_iload_n dX9_readPair_87 rfl ?_
        refine E_iload dX9_readPair_88 rfl ?_
        refine E_aload_n dX9_readPair_90 rfl ?_
        refine GX9_60 sk_145 dX9_readPair_91 ?_
        rw [kv2]
        refine E_imul dX9_readPair_94 ?_
        refine E_callVV dX9_readPair_95 lkX9_69 (Hp_get hf.1) (c_put (a := a) (b := sB r * tkV (rB r)) hf hd1 (by omega) (by omega) hdl) ?_
        rintro μ2 ⟨b1, b2⟩
        have b145 : μ2 145 = μ1 145 := b2 145 (by omega)
        have b146 : μ2 146 = μ1 146 := b2 146 (by omega)
        have c7 : μ2 145 7 = pr := by rw [b145, a2 7 (by omega)]; exact h7
        have c8 : μ2 145 8 = cr := by rw [b145, a2 8 (by omega)]; exact h8
        refine E_aload_n dX9_readPair_98 rfl ?_
        refine E_dup dX9_readPair_99 ?_
        refine GX9_31 sk_145 dX9_readPair_100 ?_
        rw [c7]
        refine E_iconst dX9_readPair_103 ?_
        refine E_iadd dX9_readPair_104 ?_
        refine PX9_31 sk_145 dX9_readPair_105 ?_
        refine E_aload_n dX9_readPair_108 rfl ?_
        refine E_dup dX9_readPair_109 ?_
        refine GX9_34 sk_145 dX9_readPair_110 ?_
        rw [up_r, if_neg (by omega), c8]
        refine E_iload_n dX9_readPair_113 rfl ?_
        refine E_iconst dX9_readPair_114 ?_
        refine E_icmp_ne 122 dX9_readPair_115 (fun h115 => ?_) (fun h115 => ?_)
        · -- 122
          refine E_iconst dX9_readPair_122 ?_
          refine E_iadd dX9_readPair_123 ?_
          refine PX9_34 sk_145 dX9_readPair_124 ?_
          obtain ⟨cr', hcr', hmem⟩ : ∃ cr' : Int, cr' = (if tkV (nxt r) = 1 then cr else cr + 1) ∧ True := ⟨_, rfl, trivial⟩
          first | rw [show cr + 0 = cr' by rw [hcr', if_pos (by omega)]; omega] | rw [show cr + 1 = cr' by rw [hcr', if_neg (by omega)]]
          have hS2 : TkS (up (up μ2 145 7 (pr + 1)) 145 8 cr') t (rB r) := hS.kept (fun j j1 j5 => by rw [up_r, if_neg (by omega), up_r, if_neg (by omega), b145]) (by rw [up_ne 146 (by decide), up_ne 146 (by decide)]; exact b146)
          refine E_aload_n dX9_readPair_127 rfl ?_
          refine E_callVV dX9_readPair_128 lkX9_37 (Hp_get sk_145) (c_advance hS2 hx) ?_
          rintro μ3 ⟨d1, d2, d3⟩
          refine E_iconst dX9_readPair_131 ?_
          refine E_zret dX9_readPair_132 ?_ (by first | exact Or.inl rfl | exact Or.inr rfl | omega)
          refine ⟨_, rfl, ?_, fun q q1 q2 => ?_, Or.inl ⟨ho, ⟨hn, by rw [hpa]; omega⟩, rfl, d1, ?_, ?_, ?_⟩⟩
          · rw [d2 6 (by omega), up_r, if_neg (by omega), up_r, if_neg (by omega), b145, a2 6 (by omega)]
          · rw [d3 q (by omega), up_ne q (by omega), up_ne q (by omega), b2 q (by omega), a3 q (by omega)]
          · rw [hpa]; exact b1.keptD (by rw [d3 f (by omega), up_ne f (by omega), up_ne f (by omega)]) (by rw [d3 (f + 1) (by omega), up_ne (f + 1) (by omega), up_ne (f + 1) (by omega)]) (by rw [d3 (f + 2) (by omega), up_ne (f + 2) (by omega), up_ne (f + 2) (by omega)])
          · rw [d2 7 (by omega), up_r, if_neg (by omega), up_r, if_pos rfl]
          · rw [d2 8 (by omega), up_r, if_pos rfl]; exact hcr'
        · -- 118
          refine E_iconst dX9_readPair_118 ?_
          refine E_goto 123 dX9_readPair_119 ?_
          refine E_iadd dX9_readPair_123 ?_
          refine PX9_34 sk_145 dX9_readPair_124 ?_
          obtain ⟨cr', hcr', hmem⟩ : ∃ cr' : Int, cr' = (if tkV (nxt r) = 1 then cr else cr + 1) ∧ True := ⟨_, rfl, trivial⟩
          first | rw [show cr + 0 = cr' by rw [hcr', if_pos (by omega)]; omega] | rw [show cr + 1 = cr' by rw [hcr', if_neg (by omega)]]
          have hS2 : TkS (up (up μ2 145 7 (pr + 1)) 145 8 cr') t (rB r) := hS.kept (fun j j1 j5 => by rw [up_r, if_neg (by omega), up_r, if_neg (by omega), b145]) (by rw [up_ne 146 (by decide), up_ne 146 (by decide)]; exact b146)
          refine E_aload_n dX9_readPair_127 rfl ?_
          refine E_callVV dX9_readPair_128 lkX9_37 (Hp_get sk_145) (c_advance hS2 hx) ?_
          rintro μ3 ⟨d1, d2, d3⟩
          refine E_iconst dX9_readPair_131 ?_
          refine E_zret dX9_readPair_132 ?_ (by first | exact Or.inl rfl | exact Or.inr rfl | omega)
          refine ⟨_, rfl, ?_, fun q q1 q2 => ?_, Or.inl ⟨ho, ⟨hn, by rw [hpa]; omega⟩, rfl, d1, ?_, ?_, ?_⟩⟩
          · rw [d2 6 (by omega), up_r, if_neg (by omega), up_r, if_neg (by omega), b145, a2 6 (by omega)]
          · rw [d3 q (by omega), up_ne q (by omega), up_ne q (by omega), b2 q (by omega), a3 q (by omega)]
          · rw [hpa]; exact b1.keptD (by rw [d3 f (by omega), up_ne f (by omega), up_ne f (by omega)]) (by rw [d3 (f + 1) (by omega), up_ne (f + 1) (by omega), up_ne (f + 1) (by omega)]) (by rw [d3 (f + 2) (by omega), up_ne (f + 2) (by omega), up_ne (f + 2) (by omega)])
          · rw [d2 7 (by omega), up_r, if_neg (by omega), up_r, if_pos rfl]
          · rw [d2 8 (by omega), up_r, if_pos rfl]; exact hcr'
      · -- 84
        first | (exfalso; omega) | (refine E_iconst dX9_readPair_84 ?_; exact E_zret dX9_readPair_85 ⟨_, rfl, a2 6 (by omega), fun q q1 q2 => a3 q (by omega), Or.inr (Or.inl ⟨ho, fun q => by have := q.2; rw [hpa] at this; omega, rfl, hS⟩)⟩ (Or.inl rfl))
  · rw [if_neg (show ¬ (tkK (rB r) = 256 ∧ 0 ≤ tkV (rB r) ∧ tkV (rB r) ≤ 99) from hn)] at hnum
    refine E_aload_n dX9_readPair_59 rfl ?_
    refine E_iconst dX9_readPair_60 ?_
    refine E_bipush dX9_readPair_61 ?_
    refine E_callVR dX9_readPair_63 lkX9_56 (Hp_get sk_145) (hnum) ?_
    refine E_if_eq 84 dX9_readPair_66 (fun h66 => ?_) (fun h66 => ?_)
    · -- 84
      refine E_iconst dX9_readPair_84 ?_
      refine E_zret dX9_readPair_85 ?_ (by first | exact Or.inl rfl | exact Or.inr rfl | omega)
      exact ⟨_, rfl, a2 6 (by omega), fun q q1 q2 => a3 q (by omega), Or.inr (Or.inl ⟨ho, fun q => hn q.1, rfl, hS⟩)⟩
    · -- 69
      exact absurd rfl h66
end TELL
