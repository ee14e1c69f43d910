/-! the text, and how the class reads it -/
def isDg (c : Int) : Bool := decide (48 ≤ c) && decide (c ≤ 57)
theorem isDg_t {c : Int} : isDg c = true ↔ 48 ≤ c ∧ c ≤ 57 := by simp [isDg]
theorem isDg_f {c : Int} : isDg c = false ↔ ¬ (48 ≤ c ∧ c ≤ 57) := by rw [← isDg_t]; simp
def numV : Int → List Int → Int
  | v, [] => v
  | v, c :: t => if isDg c then numV (min (10 * v + c - 48) 1000) t else v
def skipB (r : List Int) : List Int := r.dropWhile (fun c => decide (c = 32))
def tkK (r : List Int) : Int := match r with
  | [] => 257
  | c :: _ => if isDg c then 256 else c
def tkV (r : List Int) : Int := match r with
  | c :: d :: t => if c = 48 ∧ isDg d = true then 1000 else numV 0 (c :: d :: t)
  | r => numV 0 r
def tkR (r : List Int) : List Int := match r with
  | [] => []
  | c :: t => if isDg c then (c :: t).dropWhile isDg else t
def nxt (r : List Int) : List Int := skipB (tkR r)
theorem dw_len {p : Int → Bool} : ∀ l : List Int, (l.dropWhile p).length ≤ l.length
  | [] => by simp
  | c :: t => by
    have := dw_len (p := p) t
    rw [List.dropWhile_cons]
    split
    · simp; omega
    · simp
theorem dw_suf {p : Int → Bool} : ∀ l : List Int, ∃ a, l = a ++ l.dropWhile p
  | [] => ⟨[], by simp⟩
  | c :: t => by
    rw [List.dropWhile_cons]
    split
    · obtain ⟨a, ha⟩ := dw_suf (p := p) t
      exact ⟨c :: a, by rw [List.cons_append, ← ha]⟩
    · exact ⟨[], rfl⟩
theorem tkR_len (r : List Int) : (tkR r).length ≤ r.length ∧ (r ≠ [] → (tkR r).length < r.length) := by
  cases r with
  | nil => simp [tkR]
  | cons c t =>
    simp only [tkR]
    split
    · next h =>
      rw [List.dropWhile_cons, if_pos h]
      have := dw_len (p := isDg) t
      simp; omega
    · simp
theorem tkR_suf (r : List Int) : ∃ a, r = a ++ tkR r := by
  cases r with
  | nil => exact ⟨[], rfl⟩
  | cons c t =>
    simp only [tkR]
    split
    · exact dw_suf _
    · exact ⟨[c], rfl⟩
theorem nxt_suf (r : List Int) : ∃ a, r = a ++ nxt r := by
  obtain ⟨a, ha⟩ := tkR_suf r
  obtain ⟨b, hb⟩ := dw_suf (p := fun c => decide (c = 32)) (tkR r)
  refine ⟨a ++ b, ?_⟩
  unfold nxt skipB
  rw [List.append_assoc, ← hb]; exact ha
theorem nxt_len (r : List Int) : (nxt r).length ≤ r.length ∧ (r ≠ [] → (nxt r).length < r.length) := by
  have h1 := tkR_len r
  have h2 := dw_len (p := fun c => decide (c = 32)) (tkR r)
  unfold nxt skipB
  exact ⟨by omega, fun h => by have := h1.2 h; omega⟩
theorem tkK_ne {r : List Int} (hb : ∀ c ∈ r, 0 ≤ c ∧ c ≤ 255) (h : tkK r ≠ 257) : r ≠ [] := by rintro rfl; exact h rfl
theorem tkK_nil {r : List Int} (hb : ∀ c ∈ r, 0 ≤ c ∧ c ≤ 255) (h : tkK r = 257) : r = [] := by
  cases r with
  | nil => rfl
  | cons c t =>
    have := hb c List.mem_cons_self
    simp only [tkK] at h
    split at h <;> omega
theorem tkK_rng {r : List Int} (hb : ∀ c ∈ r, 0 ≤ c ∧ c ≤ 255) : 0 ≤ tkK r ∧ tkK r ≤ 257 := by
  cases r with
  | nil => simp [tkK]
  | cons c t =>
    have := hb c List.mem_cons_self
    simp only [tkK]
    split <;> omega
theorem numV_rng : ∀ (l : List Int) (v : Int), 0 ≤ v → v ≤ 1000 → 0 ≤ numV v l ∧ numV v l ≤ 1000
  | [], v, h0, h1 => by simp [numV]; omega
  | c :: t, v, h0, h1 => by
    simp only [numV]
    split
    · next h =>
      have := isDg_t.mp h
      exact numV_rng t _ (by omega) (by omega)
    · omega
theorem tkV_rng (r : List Int) : 0 ≤ tkV r ∧ tkV r ≤ 1000 := by
  unfold tkV
  split
  · split
    · omega
    · exact numV_rng _ _ (by omega) (by omega)
  · exact numV_rng _ _ (by omega) (by omega)
def RepT (μ : Mem) (t : List Int) : Prop := μ 145 1 = t.length ∧ t.length ≤ 100 ∧ RepV μ 146 t
def txOk (t : List Int) : Prop := ∀ c ∈ t, 0 ≤ c ∧ c ≤ 255
/-- the token at r is the present one -/
def TkS (μ : Mem) (t r : List Int) : Prop := RepT μ t ∧ μ 145 3 = tkK r ∧ μ 145 4 = (t.length : Int) - r.length ∧ μ 145 2 = (t.length : Int) - (tkR r).length ∧ (tkK r = 256 → μ 145 5 = tkV r) ∧ ∃ a, t = a ++ r
theorem TkS.kept {μ μ' : Mem} {t r : List Int} (h : TkS μ t r) (h1 : ∀ j : Int, 1 ≤ j → j ≤ 5 → μ' 145 j = μ 145 j) (h2 : μ' 146 = μ 146) : TkS μ' t r := by
  obtain ⟨⟨a1, a2, a3⟩, a4, a5, a6, a7, a8⟩ := h
  exact ⟨⟨by rw [h1 1 (by omega) (by omega)]; exact a1, a2, a3.kept h2⟩, by rw [h1 3 (by omega) (by omega)]; exact a4, by rw [h1 4 (by omega) (by omega)]; exact a5, by rw [h1 2 (by omega) (by omega)]; exact a6, fun q => by rw [h1 5 (by omega) (by omega)]; exact a7 q, a8⟩
section TELL
variable {G : GT} {μ : Mem} {f : Nat} {t : List Int}
theorem c_byteAt {p : Int} (hp : 0 ≤ p ∧ p < 100) : Ctr G mX9_byteAt [.ref 145, vi p] (Hp μ) (R1 (vi (μ 146 p)) (Hp μ)) := by
  refine Ctr.of ?_
  refine E_iload_n dX9_byteAt_0 rfl ?_
  refine E_if_lt 19 dX9_byteAt_1 (fun h1 => ?_) (fun h1 => ?_)
  · -- 19
    exfalso; omega
  · -- 4
    refine E_iload_n dX9_byteAt_4 rfl ?_
    refine E_bipush dX9_byteAt_5 ?_
    refine E_icmp_ge 19 dX9_byteAt_7 (fun h7 => ?_) (fun h7 => ?_)
    · -- 19
      exfalso; omega
    · -- 10
      refine E_aload_n dX9_byteAt_10 rfl ?_
      refine GX9_9 sk_145 dX9_byteAt_11 ?_
      refine E_iload_n dX9_byteAt_14 rfl ?_
      refine H_iald sk_146 dX9_byteAt_15 ?_
      refine E_goto 20 dX9_byteAt_16 ?_
      refine E_iret dX9_byteAt_20 ?_
      exact ⟨rfl, rfl⟩
theorem txt_at {a r : List Int} {c : Int} (hT : RepT μ t) (ht : t = a ++ c :: r) : μ 146 a.length = c ∧ a.length < 100 := by
  have k3 := hT.2.2
  have k2 := hT.2.1
  rw [ht] at k3 k2
  simp at k2
  exact ⟨k3.mid, by omega⟩
def dgH (r : List Int) : Int := match r with
  | [] => 0
  | c :: _ => if isDg c then 1 else 0
theorem c_isDigit {a r : List Int} (hT : RepT μ t) (hx : txOk t) (ht : t = a ++ r) : Ctr G mX9_isDigit [.ref 145, vi (a.length : Int)] (Hp μ) (R1 (vi (dgH r)) (Hp μ)) := by
  refine Ctr.of ?_
  have k1 := hT.1
  have k2 := hT.2.1
  cases r with
  | nil =>
    rw [ht] at k1 k2
    simp at k1 k2
    refine E_iload_n dX9_isDigit_0 rfl ?_
    refine E_aload_n dX9_isDigit_1 rfl ?_
    refine GX9_15 sk_145 dX9_isDigit_2 ?_
    refine E_icmp_ge 32 dX9_isDigit_5 (fun h5 => ?_) (fun h5 => ?_)
    · -- 32
      refine E_iconst dX9_isDigit_32 ?_
      refine E_zret dX9_isDigit_33 ?_ (by first | exact Or.inl rfl | exact Or.inr rfl | omega)
      exact ⟨rfl, rfl⟩
    · -- 8
      exfalso; omega
  | cons c r =>
    have ka := txt_at hT ht
    have kc := hx c (by rw [ht]; simp)
    rw [ht] at k1 k2
    simp at k1 k2
    by_cases hd : isDg c = true
    · have kd := isDg_t.mp hd
      have e : dgH (c :: r) = 1 := by simp [dgH, hd]
      rw [e]
      refine E_iload_n dX9_isDigit_0 rfl ?_
      refine E_aload_n dX9_isDigit_1 rfl ?_
      refine GX9_15 sk_145 dX9_isDigit_2 ?_
      refine E_icmp_ge 32 dX9_isDigit_5 (fun h5 => ?_) (fun h5 => ?_)
      · -- 32
        exfalso; omega
      · -- 8
        refine E_aload_n dX9_isDigit_8 rfl ?_
        refine E_iload_n dX9_isDigit_9 rfl ?_
        refine E_callVR dX9_isDigit_10 lkX9_73 (Hp_get sk_145) (c_byteAt (p := (a.length : Int)) (by omega)) ?_
        rw [ka.1]
        refine E_bipush dX9_isDigit_13 ?_
        refine E_icmp_lt 32 dX9_isDigit_15 (fun h15 => ?_) (fun h15 => ?_)
        · -- 32
          exfalso; omega
        · -- 18
          refine E_aload_n dX9_isDigit_18 rfl ?_
          refine E_iload_n dX9_isDigit_19 rfl ?_
          refine E_callVR dX9_isDigit_20 lkX9_73 (Hp_get sk_145) (c_byteAt (p := (a.length : Int)) (by omega)) ?_
          rw [ka.1]
          refine E_bipush dX9_isDigit_23 ?_
          refine E_icmp_gt 32 dX9_isDigit_25 (fun h25 => ?_) (fun h25 => ?_)
          · -- 32
            exfalso; omega
          · -- 28
            refine E_iconst dX9_isDigit_28 ?_
            refine E_goto 33 dX9_isDigit_29 ?_
            refine E_zret dX9_isDigit_33 ?_ (by first | exact Or.inl rfl | exact Or.inr rfl | omega)
            exact ⟨rfl, rfl⟩
    · have kd := mt isDg_t.mpr hd
      have e : dgH (c :: r) = 0 := by simp [dgH, hd]
      rw [e]
      refine E_iload_n dX9_isDigit_0 rfl ?_
      refine E_aload_n dX9_isDigit_1 rfl ?_
      refine GX9_15 sk_145 dX9_isDigit_2 ?_
      refine E_icmp_ge 32 dX9_isDigit_5 (fun h5 => ?_) (fun h5 => ?_)
      · -- 32
        refine E_iconst dX9_isDigit_32 ?_
        refine E_zret dX9_isDigit_33 ?_ (by first | exact Or.inl rfl | exact Or.inr rfl | omega)
        exact ⟨rfl, rfl⟩
      · -- 8
        refine E_aload_n dX9_isDigit_8 rfl ?_
        refine E_iload_n dX9_isDigit_9 rfl ?_
        refine E_callVR dX9_isDigit_10 lkX9_73 (Hp_get sk_145) (c_byteAt (p := (a.length : Int)) (by omega)) ?_
        rw [ka.1]
        refine E_bipush dX9_isDigit_13 ?_
        refine E_icmp_lt 32 dX9_isDigit_15 (fun h15 => ?_) (fun h15 => ?_)
        · -- 32
          refine E_iconst dX9_isDigit_32 ?_
          refine E_zret dX9_isDigit_33 ?_ (by first | exact Or.inl rfl | exact Or.inr rfl | omega)
          exact ⟨rfl, rfl⟩
        · -- 18
          refine E_aload_n dX9_isDigit_18 rfl ?_
          refine E_iload_n dX9_isDigit_19 rfl ?_
          refine E_callVR dX9_isDigit_20 lkX9_73 (Hp_get sk_145) (c_byteAt (p := (a.length : Int)) (by omega)) ?_
          rw [ka.1]
          refine E_bipush dX9_isDigit_23 ?_
          refine E_icmp_gt 32 dX9_isDigit_25 (fun h25 => ?_) (fun h25 => ?_)
          · -- 32
            refine E_iconst dX9_isDigit_32 ?_
            refine E_zret dX9_isDigit_33 ?_ (by first | exact Or.inl rfl | exact Or.inr rfl | omega)
            exact ⟨rfl, rfl⟩
          · -- 28
            exfalso; omega
theorem dgH_rng (r : List Int) : dgH r = 0 ∨ dgH r = 1 := by
  cases r with
  | nil => exact Or.inl rfl
  | cons c r => simp only [dgH]; split <;> simp
/-- reading digits -/
theorem rn_loop (hx : txOk t) {Q : QT} : ∀ (q a : List Int) (v : Int) (μ' : Mem), t = a ++ q → RepT μ' t → μ' 145 2 = a.length → μ' 145 5 = v → 0 ≤ v → v ≤ 1000 → (∀ j : Int, j ≠ 2 → j ≠ 5 → μ' 145 j = μ 145 j) → Off 145 1 μ μ' →
    (∀ μ2 : Mem, RepT μ2 t → μ2 145 2 = (t.length : Int) - (q.dropWhile isDg).length → μ2 145 5 = numV v q → (∀ j : Int, j ≠ 2 → j ≠ 5 → μ2 145 j = μ 145 j) → Off 145 1 μ μ2 → E G mX9_readNumber (Zq G mX9_readNumber Q) 0 0 69 [.ref 145, .retAddr 0] [] (Hp μ2)) →
    E G mX9_readNumber (Zq G mX9_readNumber Q) 0 0 5 [.ref 145, .retAddr 0] [] (Hp μ') := by
  intro q
  induction q with
  | nil =>
    intro a v μ' e1 e2 e3 e4 e5 e6 e7 e8 hk
    have k1 := e2.1
    have k2 := e2.2.1
    simp only [List.append_nil] at e1
    subst e1
    refine E_aload_n dX9_readNumber_5 rfl ?_
    refine GX9_25 sk_145 dX9_readNumber_6 ?_
    refine E_aload_n dX9_readNumber_9 rfl ?_
    refine GX9_15 sk_145 dX9_readNumber_10 ?_
    refine E_icmp_ge 69 dX9_readNumber_13 (fun h13 => ?_) (fun h13 => ?_)
    · -- 69
      exact hk μ' e2 (by simp; omega) e4 e7 e8
    · -- 16
      exfalso; omega
  | cons c q ih =>
    intro a v μ' e1 e2 e3 e4 e5 e6 e7 e8 hk
    have k1 := e2.1
    have k2 := e2.2.1
    have ka := txt_at e2 e1
    have kc := hx c (by rw [e1]; simp)
    have kl : (t.length : Int) = a.length + 1 + q.length := by rw [e1]; simp; omega
    have hdig := c_isDigit (G := G) e2 hx e1
    by_cases hd : isDg c = true
    · have kd := isDg_t.mp hd
      rw [show dgH (c :: q) = 1 by simp [dgH, hd]] at hdig
      refine E_aload_n dX9_readNumber_5 rfl ?_
      refine GX9_25 sk_145 dX9_readNumber_6 ?_
      refine E_aload_n dX9_readNumber_9 rfl ?_
      refine GX9_15 sk_145 dX9_readNumber_10 ?_
      refine E_icmp_ge 69 dX9_readNumber_13 (fun h13 => ?_) (fun h13 => ?_)
      · -- 69
        exfalso; omega
      · -- 16
        refine E_aload_n dX9_readNumber_16 rfl ?_
        refine E_aload_n dX9_readNumber_17 rfl ?_
        refine GX9_25 sk_145 dX9_readNumber_18 ?_
        rw [e3]
        refine E_callVR dX9_readNumber_21 lkX9_77 (Hp_get sk_145) (hdig) ?_
        refine E_if_eq 69 dX9_readNumber_24 (fun h24 => ?_) (fun h24 => ?_)
        · -- 69
          exfalso; omega
        · -- 27
          refine E_aload_n dX9_readNumber_27 rfl ?_
          refine E_bipush dX9_readNumber_28 ?_
          refine E_aload_n dX9_readNumber_30 rfl ?_
          refine GX9_60 sk_145 dX9_readNumber_31 ?_
          rw [e4]
          refine E_imul dX9_readNumber_34 ?_
          refine E_aload_n dX9_readNumber_35 rfl ?_
          refine E_aload_n dX9_readNumber_36 rfl ?_
          refine GX9_25 sk_145 dX9_readNumber_37 ?_
          rw [e3]
          refine E_callVR dX9_readNumber_40 lkX9_73 (Hp_get sk_145) (c_byteAt (p := (a.length : Int)) (by omega)) ?_
          rw [ka.1]
          refine E_iadd dX9_readNumber_43 ?_
          refine E_bipush dX9_readNumber_44 ?_
          refine E_isub dX9_readNumber_46 ?_
          refine E_sipush dX9_readNumber_47 ?_
          refine E_callSR dX9_readNumber_50 lkX9_84 (c_min (x := 10 * v + c - 48) (z := 1000) (by omega) (by omega)) ?_
          refine PX9_60 sk_145 dX9_readNumber_53 ?_
          refine E_aload_n dX9_readNumber_56 rfl ?_
          refine E_dup dX9_readNumber_57 ?_
          refine GX9_25 sk_145 dX9_readNumber_58 ?_
          rw [up_r, if_neg (by omega), e3]
          refine E_iconst dX9_readNumber_61 ?_
          refine E_iadd dX9_readNumber_62 ?_
          refine PX9_25 sk_145 dX9_readNumber_63 ?_
          refine E_goto 5 dX9_readNumber_66 ?_
          refine ih (a ++ [c]) (min (10 * v + c - 48) 1000) _ (by rw [e1]; simp) ⟨by rw [up_r, if_neg (by omega), up_r, if_neg (by omega)]; exact k1, k2, e2.2.2.kept (by rw [up_ne 146 (by decide), up_ne 146 (by decide)])⟩ (by rw [up_r, if_pos rfl]; simp) (by rw [up_r, if_neg (by omega), up_r, if_pos rfl]) (by omega) (by omega) (fun j j2 j5 => by rw [up_r, if_neg j2, up_r, if_neg j5]; exact e7 j j2 j5) ((e8.up (by omega) (by omega)).up (by omega) (by omega)) (fun μ2 q1 q2 q3 q4 q5 => hk μ2 q1 (by rw [List.dropWhile_cons, if_pos hd]; exact q2) (by rw [numV, if_pos hd]; exact q3) q4 q5)
    · have kd := mt isDg_t.mpr hd
      rw [show dgH (c :: q) = 0 by simp [dgH, hd]] at hdig
      refine E_aload_n dX9_readNumber_5 rfl ?_
      refine GX9_25 sk_145 dX9_readNumber_6 ?_
      refine E_aload_n dX9_readNumber_9 rfl ?_
      refine GX9_15 sk_145 dX9_readNumber_10 ?_
      refine E_icmp_ge 69 dX9_readNumber_13 (fun h13 => ?_) (fun h13 => ?_)
      · -- 69
        first | (exfalso; omega) | exact hk μ' e2 (by rw [List.dropWhile_cons, if_neg hd, e3]; simp; omega) (by rw [numV, if_neg hd]; exact e4) e7 e8
      · -- 16
        refine E_aload_n dX9_readNumber_16 rfl ?_
        refine E_aload_n dX9_readNumber_17 rfl ?_
        refine GX9_25 sk_145 dX9_readNumber_18 ?_
        rw [e3]
        refine E_callVR dX9_readNumber_21 lkX9_77 (Hp_get sk_145) (hdig) ?_
        refine E_if_eq 69 dX9_readNumber_24 (fun h24 => ?_) (fun h24 => ?_)
        · -- 69
          first | (exfalso; omega) | exact hk μ' e2 (by rw [List.dropWhile_cons, if_neg hd, e3]; simp; omega) (by rw [numV, if_neg hd]; exact e4) e7 e8
        · -- 27
          exfalso; omega
end TELL
