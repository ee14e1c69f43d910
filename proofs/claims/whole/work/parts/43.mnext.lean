/-! FibredSpacesModel: tokens of the text -/
def numM : Int → List Int → Int
  | v, [] => v
  | v, c :: t => if isDg c then numM (if 99 < v then v else 10 * v + c - 48) t else v
theorem numM_rng : ∀ (l : List Int) (v : Int), 0 ≤ v → v ≤ 999 → 0 ≤ numM v l ∧ numM v l ≤ 999
  | [], v, h0, h1 => by simp [numM]; omega
  | c :: t, v, h0, h1 => by
    simp only [numM]
    split
    · next h =>
      have := isDg_t.mp h
      refine numM_rng t _ ?_ ?_
      · split <;> omega
      · split <;> omega
    · omega
theorem numM_V : ∀ (l : List Int) (v u : Int), ((0 ≤ v ∧ v ≤ 99 ∧ u = v) ∨ (99 < v ∧ v ≤ 999 ∧ 99 < u ∧ u ≤ 1000)) → (numM v l ≤ 99 ∧ numV u l = numM v l) ∨ (99 < numM v l ∧ 99 < numV u l)
  | [], v, u, h => by simp only [numM, numV]; omega
  | c :: t, v, u, h => by
    simp only [numM, numV]
    split
    · next hc =>
      have := isDg_t.mp hc
      refine numM_V t _ _ ?_
      split <;> omega
    · omega
def modT (r : List Int) : Int := match r with
  | [] => 0
  | c :: t => if isDg c then (if tkV (c :: t) ≤ 99 then 1 else 2) else (if c = 111 ∨ c = 110 ∨ c = 102 ∨ c = 45 ∨ c = 59 then c else 2)
theorem modT_0 {r : List Int} (hx : txOk r) : modT r = 0 ↔ tkK r = 257 := by
  cases r with
  | nil => simp [modT, tkK]
  | cons c t =>
    have := hx c List.mem_cons_self
    simp only [modT, tkK]
    split
    · split <;> omega
    · split <;> omega
theorem modT_c {r : List Int} {c : Int} (hx : txOk r) (hc : c = 111 ∨ c = 110 ∨ c = 102 ∨ c = 45 ∨ c = 59) : modT r = c ↔ tkK r = c := by
  cases r with
  | nil => simp [modT, tkK]; omega
  | cons z t =>
    have := hx z List.mem_cons_self
    simp only [modT, tkK]
    split
    · split <;> omega
    · split <;> omega
theorem modT_1 {r : List Int} (hx : txOk r) : modT r = 1 ↔ tkK r = 256 ∧ tkV r ≤ 99 := by
  cases r with
  | nil => simp [modT, tkK]
  | cons z t =>
    have := hx z List.mem_cons_self
    simp only [modT, tkK]
    split
    · split <;> omega
    · split <;> omega
theorem modT_rng {r : List Int} (hx : txOk r) : 0 ≤ modT r ∧ modT r ≤ 255 := by
  cases r with
  | nil => simp [modT]
  | cons z t =>
    have := hx z List.mem_cons_self
    simp only [modT]
    split
    · split <;> omega
    · split <;> omega
def OffK (μ μ' : Mem) : Prop := (∀ q : Nat, q ≠ 203 → μ' q = μ q) ∧ ∀ j : Int, (j < 13 ∨ 16 < j) → μ' 203 j = μ 203 j
theorem OffK.rf {μ : Mem} : OffK μ μ := ⟨fun _ _ => rfl, fun _ _ => rfl⟩
theorem OffK.tr {μ μ1 μ2 : Mem} (h : OffK μ μ1) (h' : OffK μ1 μ2) : OffK μ μ2 := ⟨fun q a => by rw [h'.1 q a, h.1 q a], fun j a => by rw [h'.2 j a, h.2 j a]⟩
theorem OffK.fld {μ μ1 : Mem} {j x : Int} (h : OffK μ μ1) (hj : 13 ≤ j ∧ j ≤ 16) : OffK μ (up μ1 203 j x) := ⟨fun q a => by rw [up_ne q a]; exact h.1 q a, fun i a => by rw [up_r, if_neg (by omega)]; exact h.2 i a⟩
theorem OffK.w {μ μ' : Mem} (h : OffK μ μ') : OffW μ μ' := ⟨fun q a _ _ _ _ _ _ _ => h.1 q a, fun j hj => h.2 j (by omega)⟩
theorem OffK.x {μ μ' : Mem} {t : List Int} (h : OffK μ μ') (hX : RepX μ t) : RepX μ' t := hX.kept (h.2 12 (by omega)) (h.1 210 (by decide))
theorem OffK.b {μ μ' : Mem} {d : Sp} (h : OffK μ μ') (hB : RepB μ d) : RepB μ' d := by
  obtain ⟨a1, a2, a3, a4, a5⟩ := hB
  exact ⟨by rw [h.2 5 (by omega)]; exact a1, by rw [h.2 6 (by omega)]; exact a2, by rw [h.2 7 (by omega)]; exact a3, by rw [h.2 8 (by omega)]; exact a4, a5.kept (h.1 208 (by decide)) (h.1 209 (by decide))⟩
/-- the model's token at r is the present one -/
def MTk (μ : Mem) (t r : List Int) : Prop := μ 203 13 = (t.length : Int) - (tkR r).length ∧ μ 203 14 = (t.length : Int) - r.length ∧ μ 203 15 = modT r ∧ 0 ≤ μ 203 16 ∧ μ 203 16 ≤ 999 ∧ (modT r = 1 → μ 203 16 = tkV r) ∧ ∃ a, t = a ++ r
section MNEXT
variable {G : GT} {μ : Mem} {M : HV} {σ : St} {t : List Int}
theorem nx_skip {w : Value} {Q : QT} (hX : RepX μ t) (hx : txOk t) : ∀ (r a : List Int) (μ' : Mem), t = a ++ r → μ' 203 13 = a.length → OffK μ μ' →
    (∀ (μ2 : Mem) (a2 : List Int), t = a2 ++ skipB r → μ2 203 13 = a2.length → OffK μ μ2 → E G mX11_next (Zq G mX11_next Q) 0 0 38 [.ref 203, w] [] (Hp μ2)) →
    E G mX11_next (Zq G mX11_next Q) 0 0 0 [.ref 203, w] [] (Hp μ') := by
  intro r
  induction r with
  | nil =>
    intro a μ' h1 h2 h3 hk
    have k1 := (h3.x hX).1
    have k2 := (h3.x hX).2.1
    have hl : a.length = t.length := by rw [h1]; simp
    refine E_aload_n dX11_next_0 rfl ?_
    refine GX11_113 sk_203 dX11_next_1 ?_
    refine E_aload_n dX11_next_4 rfl ?_
    refine GX11_110 sk_203 dX11_next_5 ?_
    refine E_icmp_ge 38 dX11_next_8 (fun h8 => ?_) (fun h8 => ?_)
    · -- 38
      exact hk μ' a h1 h2 h3
    · -- 11
      exfalso; omega
  | cons c r ih =>
    intro a μ' h1 h2 h3 hk
    have k1 := (h3.x hX).1
    have k2 := (h3.x hX).2.1
    have hc := hx c (by rw [h1]; simp)
    have hl : a.length + 1 + r.length = t.length := by rw [h1]; simp; omega
    have hat : μ' 210 (a.length : Int) = c := ((show RepV μ' 210 (a ++ c :: r) by rw [← h1]; exact (h3.x hX).2.2)).mid
    by_cases hb : c = 32
    · have e : skipB (c :: r) = skipB r := by simp [skipB, hb]
      rw [e] at hk
      have tn := ih (a ++ [c]) (up μ' 203 13 ((a.length : Int) + 1)) (by rw [h1]; simp) (by rw [up_r, if_pos rfl]; simp) (h3.fld (by omega)) hk
      refine E_aload_n dX11_next_0 rfl ?_
      refine GX11_113 sk_203 dX11_next_1 ?_
      refine E_aload_n dX11_next_4 rfl ?_
      refine GX11_110 sk_203 dX11_next_5 ?_
      refine E_icmp_ge 38 dX11_next_8 (fun h8 => ?_) (fun h8 => ?_)
      · -- 38
        exfalso; omega
      · -- 11
        refine E_aload_n dX11_next_11 rfl ?_
        refine GX11_29 sk_203 dX11_next_12 ?_
        refine E_aload_n dX11_next_15 rfl ?_
        refine GX11_113 sk_203 dX11_next_16 ?_
        rw [h2]
        refine H_iald sk_210 dX11_next_19 ?_
        rw [hat]
        refine E_bipush dX11_next_20 ?_
        refine E_icmp_ne 38 dX11_next_22 (fun h22 => ?_) (fun h22 => ?_)
        · -- 38
          exfalso; omega
        · -- 25
          refine E_aload_n dX11_next_25 rfl ?_
          refine E_dup dX11_next_26 ?_
          refine GX11_113 sk_203 dX11_next_27 ?_
          rw [h2]
          refine E_iconst dX11_next_30 ?_
          refine E_iadd dX11_next_31 ?_
          refine PX11_113 sk_203 dX11_next_32 ?_
          refine E_goto 0 dX11_next_35 ?_
          exact tn
    · have e : skipB (c :: r) = c :: r := by simp [skipB, hb]
      rw [e] at hk
      refine E_aload_n dX11_next_0 rfl ?_
      refine GX11_113 sk_203 dX11_next_1 ?_
      refine E_aload_n dX11_next_4 rfl ?_
      refine GX11_110 sk_203 dX11_next_5 ?_
      refine E_icmp_ge 38 dX11_next_8 (fun h8 => ?_) (fun h8 => ?_)
      · -- 38
        first | (exfalso; omega) | exact hk μ' a h1 h2 h3
      · -- 11
        refine E_aload_n dX11_next_11 rfl ?_
        refine GX11_29 sk_203 dX11_next_12 ?_
        refine E_aload_n dX11_next_15 rfl ?_
        refine GX11_113 sk_203 dX11_next_16 ?_
        rw [h2]
        refine H_iald sk_210 dX11_next_19 ?_
        rw [hat]
        refine E_bipush dX11_next_20 ?_
        refine E_icmp_ne 38 dX11_next_22 (fun h22 => ?_) (fun h22 => ?_)
        · -- 38
          first | (exfalso; omega) | exact hk μ' a h1 h2 h3
        · -- 25
          exfalso; omega
theorem nx_dig {w : Value} {k14 : Int} {Q : QT} (hX : RepX μ t) (hx : txOk t) : ∀ (r a : List Int) (v : Int) (μ' : Mem), t = a ++ r → μ' 203 13 = a.length → μ' 203 16 = v → 0 ≤ v → v ≤ 999 → μ' 203 14 = k14 → OffK μ μ' →
    (∀ (μ2 : Mem) (a2 : List Int), t = a2 ++ r.dropWhile isDg → μ2 203 13 = a2.length → μ2 203 16 = numM v r → μ2 203 14 = k14 → OffK μ μ2 → E G mX11_next (Zq G mX11_next Q) 0 0 178 [.ref 203, w] [] (Hp μ2)) →
    E G mX11_next (Zq G mX11_next Q) 0 0 92 [.ref 203, w] [] (Hp μ') := by
  intro r
  induction r with
  | nil =>
    intro a v μ' h1 h2 h16 v0 v1 h14 h3 hk
    have k1 := (h3.x hX).1
    have k2 := (h3.x hX).2.1
    have hl : a.length = t.length := by rw [h1]; simp
    refine E_aload_n dX11_next_92 rfl ?_
    refine GX11_113 sk_203 dX11_next_93 ?_
    refine E_aload_n dX11_next_96 rfl ?_
    refine GX11_110 sk_203 dX11_next_97 ?_
    refine E_icmp_ge 178 dX11_next_100 (fun h100 => ?_) (fun h100 => ?_)
    · -- 178
      exact hk μ' a h1 h2 h16 h14 h3
    · -- 103
      exfalso; omega
  | cons c r ih =>
    intro a v μ' h1 h2 h16 v0 v1 h14 h3 hk
    have k1 := (h3.x hX).1
    have k2 := (h3.x hX).2.1
    have hc := hx c (by rw [h1]; simp)
    have hl : a.length + 1 + r.length = t.length := by rw [h1]; simp; omega
    have hat : μ' 210 (a.length : Int) = c := ((show RepV μ' 210 (a ++ c :: r) by rw [← h1]; exact (h3.x hX).2.2)).mid
    have hin := m_in (G := G) (M := Hp μ') (v := c) (lo := 48) (hi := 57) (by omega) (by omega) (by omega)
    by_cases hb : 48 ≤ c ∧ c ≤ 57
    · have hd : isDg c = true := isDg_t.mpr hb
      rw [cif_pos hb] at hin
      have e : (c :: r).dropWhile isDg = r.dropWhile isDg := by rw [List.dropWhile_cons, if_pos hd]
      have e2 : numM v (c :: r) = numM (if 99 < v then v else 10 * v + c - 48) r := by simp [numM, hd]
      rw [e, e2] at hk
      have tn := fun (u : Int) (hu : u = if 99 < v then v else 10 * v + c - 48) => ih (a ++ [c]) u (up (up μ' 203 16 u) 203 13 ((a.length : Int) + 1)) (by rw [h1]; simp) (by rw [up_r, if_pos rfl]; simp) (by rw [up_r, if_neg (by omega), up_r, if_pos rfl]) (by rw [hu]; split <;> omega) (by rw [hu]; split <;> omega) (by rw [up_r, if_neg (by omega), up_r, if_neg (by omega)]; exact h14) ((h3.fld (by omega)).fld (by omega)) (by rw [hu]; exact hk)
      refine E_aload_n dX11_next_92 rfl ?_
      refine GX11_113 sk_203 dX11_next_93 ?_
      refine E_aload_n dX11_next_96 rfl ?_
      refine GX11_110 sk_203 dX11_next_97 ?_
      refine E_icmp_ge 178 dX11_next_100 (fun h100 => ?_) (fun h100 => ?_)
      · -- 178
        first | (exfalso; omega) | exact absurd h122 (by decide)
      · -- 103
        refine E_aload_n dX11_next_103 rfl ?_
        refine GX11_29 sk_203 dX11_next_104 ?_
        refine E_aload_n dX11_next_107 rfl ?_
        refine GX11_113 sk_203 dX11_next_108 ?_
        rw [h2]
        refine H_iald sk_210 dX11_next_111 ?_
        rw [hat]
        refine E_i2l dX11_next_112 ?_
        refine E_ldc2 dX11_next_113 coX11_125 ?_
        refine E_ldc2 dX11_next_116 coX11_127 ?_
        refine E_callSR dX11_next_119 lkX11_63 (hin) ?_
        refine E_if_eq 178 dX11_next_122 (fun h122 => ?_) (fun h122 => ?_)
        · -- 178
          first | (exfalso; omega) | exact absurd h122 (by decide)
        · -- 125
          refine E_aload_n dX11_next_125 rfl ?_
          refine E_aload_n dX11_next_126 rfl ?_
          refine GX11_119 sk_203 dX11_next_127 ?_
          rw [h16]
          refine E_bipush dX11_next_130 ?_
          refine E_icmp_le 142 dX11_next_132 (fun h132 => ?_) (fun h132 => ?_)
          · -- 142
            refine E_bipush dX11_next_142 ?_
            refine E_aload_n dX11_next_144 rfl ?_
            refine GX11_119 sk_203 dX11_next_145 ?_
            rw [h16]
            refine E_imul dX11_next_148 ?_
            refine E_aload_n dX11_next_149 rfl ?_
            refine GX11_29 sk_203 dX11_next_150 ?_
            refine E_aload_n dX11_next_153 rfl ?_
            refine GX11_113 sk_203 dX11_next_154 ?_
            rw [h2]
            refine H_iald sk_210 dX11_next_157 ?_
            rw [hat]
            refine E_iadd dX11_next_158 ?_
            refine E_bipush dX11_next_159 ?_
            refine E_isub dX11_next_161 ?_
            refine PX11_119 sk_203 dX11_next_162 ?_
            refine E_aload_n dX11_next_165 rfl ?_
            refine E_dup dX11_next_166 ?_
            refine GX11_113 sk_203 dX11_next_167 ?_
            rw [up_r, if_neg (by omega), h2]
            refine E_iconst dX11_next_170 ?_
            refine E_iadd dX11_next_171 ?_
            refine PX11_113 sk_203 dX11_next_172 ?_
            refine E_goto 92 dX11_next_175 ?_
            refine tn _ ?_
            first | rw [if_pos (by omega)] | rw [if_neg (by omega)]
          · -- 135
            refine E_aload_n dX11_next_135 rfl ?_
            refine GX11_119 sk_203 dX11_next_136 ?_
            rw [h16]
            refine E_goto 162 dX11_next_139 ?_
            refine PX11_119 sk_203 dX11_next_162 ?_
            refine E_aload_n dX11_next_165 rfl ?_
            refine E_dup dX11_next_166 ?_
            refine GX11_113 sk_203 dX11_next_167 ?_
            rw [up_r, if_neg (by omega), h2]
            refine E_iconst dX11_next_170 ?_
            refine E_iadd dX11_next_171 ?_
            refine PX11_113 sk_203 dX11_next_172 ?_
            refine E_goto 92 dX11_next_175 ?_
            refine tn _ ?_
            first | rw [if_pos (by omega)] | rw [if_neg (by omega)]
    · have hd : isDg c = false := isDg_f.mpr hb
      rw [cif_neg hb] at hin
      have e : (c :: r).dropWhile isDg = c :: r := by rw [List.dropWhile_cons, if_neg (by simp [hd])]
      have e2 : numM v (c :: r) = v := by simp [numM, hd]
      rw [e, e2] at hk
      refine E_aload_n dX11_next_92 rfl ?_
      refine GX11_113 sk_203 dX11_next_93 ?_
      refine E_aload_n dX11_next_96 rfl ?_
      refine GX11_110 sk_203 dX11_next_97 ?_
      refine E_icmp_ge 178 dX11_next_100 (fun h100 => ?_) (fun h100 => ?_)
      · -- 178
        first | (exfalso; omega) | exact hk μ' a h1 h2 h16 h14 h3
      · -- 103
        refine E_aload_n dX11_next_103 rfl ?_
        refine GX11_29 sk_203 dX11_next_104 ?_
        refine E_aload_n dX11_next_107 rfl ?_
        refine GX11_113 sk_203 dX11_next_108 ?_
        rw [h2]
        refine H_iald sk_210 dX11_next_111 ?_
        rw [hat]
        refine E_i2l dX11_next_112 ?_
        refine E_ldc2 dX11_next_113 coX11_125 ?_
        refine E_ldc2 dX11_next_116 coX11_127 ?_
        refine E_callSR dX11_next_119 lkX11_63 (hin) ?_
        refine E_if_eq 178 dX11_next_122 (fun h122 => ?_) (fun h122 => ?_)
        · -- 178
          first | (exfalso; omega) | exact hk μ' a h1 h2 h16 h14 h3
        · -- 125
          exact absurd rfl h122
theorem dg_one {c : Int} {r : List Int} (hd : isDg c = true) : (((c :: r).length : Int) - ((c :: r).dropWhile isDg).length > 1) ↔ ∃ d r', r = d :: r' ∧ isDg d = true := by
  rw [List.dropWhile_cons, if_pos hd]
  cases r with
  | nil => simp
  | cons d r' =>
    by_cases h : isDg d = true
    · have := dw_len (p := isDg) r'
      rw [List.dropWhile_cons, if_pos h]
      simp [h]; omega
    · rw [List.dropWhile_cons, if_neg h]
      simp [h]; omega
theorem m_next0 {r0 : List Int} (hX : RepX μ t) (hx : txOk t) (h13 : μ 203 13 = (t.length : Int) - r0.length) (hs : ∃ a, t = a ++ r0) : Ctr G mX11_next [.ref 203] (Hp μ) (V0 (fun μ' => MTk μ' t (skipB r0) ∧ OffK μ μ')) := by
  refine Ctr.of ?_
  obtain ⟨a, ha⟩ := hs
  have hl0 : a.length + r0.length = t.length := by rw [ha]; simp
  refine nx_skip (μ := μ) hX hx r0 a μ ha (by omega) OffK.rf (fun μ1 b hb h1 h3 => ?_)
  have k1 := (h3.x hX).1
  have k2 := (h3.x hX).2.1
  have hV := (h3.x hX).2.2
  generalize skipB r0 = r at hb ⊢
  have hl : b.length + r.length = t.length := by rw [hb]; simp
  cases r with
  | nil =>
    simp only [List.length_nil] at hl
    refine E_aload_n dX11_next_38 rfl ?_
    refine E_aload_n dX11_next_39 rfl ?_
    refine GX11_113 sk_203 dX11_next_40 ?_
    rw [h1]
    refine PX11_116 sk_203 dX11_next_43 ?_
    refine E_aload_n dX11_next_46 rfl ?_
    refine E_iconst dX11_next_47 ?_
    refine PX11_119 sk_203 dX11_next_48 ?_
    refine E_aload_n dX11_next_51 rfl ?_
    refine GX11_113 sk_203 dX11_next_52 ?_
    rw [up_r, if_neg (by omega), up_r, if_neg (by omega), h1]
    refine E_aload_n dX11_next_55 rfl ?_
    refine GX11_110 sk_203 dX11_next_56 ?_
    rw [up_r, if_neg (by omega), up_r, if_neg (by omega), k1]
    refine E_icmp_ne 70 dX11_next_59 (fun h59 => ?_) (fun h59 => ?_)
    · -- 70
      exfalso; omega
    · -- 62
      refine E_aload_n dX11_next_62 rfl ?_
      refine E_iconst dX11_next_63 ?_
      refine PX11_122 sk_203 dX11_next_64 ?_
      refine E_goto 285 dX11_next_67 ?_
      refine E_vret dX11_next_285 ?_
      refine ⟨rfl, _, rfl, ⟨?_, ?_, ?_, ?_, ?_, fun h => by simp [modT] at h, b, hb⟩, ((h3.fld (by omega)).fld (by omega)).fld (by omega)⟩
      · rw [up_r, if_neg (by omega), up_r, if_neg (by omega), up_r, if_neg (by omega), h1]; simp [tkR]; omega
      · rw [up_r, if_neg (by omega), up_r, if_neg (by omega), up_r, if_pos rfl]; simp; omega
      · rw [up_r, if_pos rfl]; rfl
      · rw [up_r, if_neg (by omega), up_r, if_pos rfl]; omega
      · rw [up_r, if_neg (by omega), up_r, if_pos rfl]; omega
  | cons c r =>
    have hc := hx c (by rw [hb]; simp)
    simp only [List.length_cons] at hl
    have hat : μ1 210 (b.length : Int) = c := ((show RepV μ1 210 (b ++ c :: r) by rw [← hb]; exact hV)).mid
    have ho : OffK μ (up (up μ1 203 14 (b.length : Int)) 203 16 0) := (h3.fld (by omega)).fld (by omega)
    have e210 : (up (up μ1 203 14 (b.length : Int)) 203 16 0) 210 = μ1 210 := by rw [up_ne 210 (by decide), up_ne 210 (by decide)]
    have e13 : (up (up μ1 203 14 (b.length : Int)) 203 16 0) 203 13 = b.length := by rw [up_r, if_neg (by omega), up_r, if_neg (by omega), h1]
    have e14 : (up (up μ1 203 14 (b.length : Int)) 203 16 0) 203 14 = b.length := by rw [up_r, if_neg (by omega), up_r, if_pos rfl]
    have e16 : (up (up μ1 203 14 (b.length : Int)) 203 16 0) 203 16 = 0 := by rw [up_r, if_pos rfl]
    have e12 : (up (up μ1 203 14 (b.length : Int)) 203 16 0) 203 12 = t.length := by rw [up_r, if_neg (by omega), up_r, if_neg (by omega), k1]
    generalize hM0 : up (up μ1 203 14 (b.length : Int)) 203 16 0 = μ0 at ho e210 e13 e14 e16 e12
    have hin := m_in (G := G) (M := Hp μ0) (v := c) (lo := 48) (hi := 57) (by omega) (by omega) (by omega)
    by_cases hd : 48 ≤ c ∧ c ≤ 57
    · have hdg : isDg c = true := isDg_t.mpr hd
      rw [cif_pos hd] at hin
      have nr := numM_rng (c :: r) 0 (by omega) (by omega)
      have nv := numM_V (c :: r) 0 0 (by omega)
      have d1 := dg_one (r := r) hdg
      have hV2 : (c = 48 ∧ (((c :: r).length : Int) - ((c :: r).dropWhile isDg).length > 1) → tkV (c :: r) = 1000) ∧ (¬ (c = 48 ∧ (((c :: r).length : Int) - ((c :: r).dropWhile isDg).length > 1)) → tkV (c :: r) = numV 0 (c :: r)) := by
        rw [d1]
        cases r with
        | nil => simp [tkV]
        | cons d r' =>
          have hex : (∃ d1 r1, d :: r' = d1 :: r1 ∧ isDg d1 = true) ↔ isDg d = true := ⟨by rintro ⟨d1, r1, e, h⟩; cases e; exact h, fun h => ⟨d, r', rfl, h⟩⟩
          rw [hex]
          exact ⟨fun hh => if_pos hh, fun hh => if_neg hh⟩
      have eR : tkR (c :: r) = (c :: r).dropWhile isDg := by simp [tkR, hdg]
      have eT : modT (c :: r) = if tkV (c :: r) ≤ 99 then 1 else 2 := by simp [modT, hdg]
      have fin : ∀ (μ2 : Mem) (a2 : List Int), t = a2 ++ (c :: r).dropWhile isDg → μ2 203 13 = a2.length → μ2 203 16 = numM 0 (c :: r) → μ2 203 14 = b.length → OffK μ0 μ2 → E G mX11_next (Zq G mX11_next (V0 (fun μ' => MTk μ' t (c :: r) ∧ OffK μ μ'))) 0 0 178 [.ref 203, .retAddr 0] [] (Hp μ2) := by
        intro μ2 a2 f1 f2 f3 f4 f5
        have g1 : μ2 210 (b.length : Int) = c := by rw [f5.1 210 (by decide), e210]; exact hat
        have hl2 : a2.length + ((c :: r).dropWhile isDg).length = t.length := by
          have := congrArg List.length f1
          rw [List.length_append] at this
          omega
        simp only [List.length_cons] at hV2
        have done : ∀ x : Int, x = modT (c :: r) → V0 (fun μ' => MTk μ' t (c :: r) ∧ OffK μ μ') none (Hp (up μ2 203 15 x)) := by
          intro x hx1
          refine ⟨rfl, _, rfl, ⟨?_, ?_, ?_, ?_, ?_, fun h => ?_, b, hb⟩, (ho.tr f5).fld (by omega)⟩
          · rw [up_r, if_neg (by omega), f2, eR]; omega
          · rw [up_r, if_neg (by omega), f4]; simp; omega
          · rw [up_r, if_pos rfl]; exact hx1
          · rw [up_r, if_neg (by omega), f3]; omega
          · rw [up_r, if_neg (by omega), f3]; omega
          · rw [up_r, if_neg (by omega), f3]
            rw [eT] at h
            have h9 : tkV (c :: r) ≤ 99 := by
              by_cases q : tkV (c :: r) ≤ 99
              · exact q
              · rw [if_neg q] at h; omega
            have := hV2.2 (fun q => by have := hV2.1 q; omega)
            omega
        refine E_aload_n dX11_next_178 rfl ?_
        refine E_aload_n dX11_next_179 rfl ?_
        refine GX11_119 sk_203 dX11_next_180 ?_
        rw [f3]
        refine E_bipush dX11_next_183 ?_
        refine E_icmp_gt 215 dX11_next_185 (fun h185 => ?_) (fun h185 => ?_)
        · -- 215
          refine E_iconst dX11_next_215 ?_
          refine E_goto 220 dX11_next_216 ?_
          refine PX11_122 sk_203 dX11_next_220 ?_
          refine E_goto 285 dX11_next_223 ?_
          refine E_vret dX11_next_285 ?_
          refine done _ ?_
          rw [eT]
          first | (rw [if_pos (by omega)]) | (rw [if_neg (by omega)])
        · -- 188
          refine E_aload_n dX11_next_188 rfl ?_
          refine GX11_29 sk_203 dX11_next_189 ?_
          refine E_aload_n dX11_next_192 rfl ?_
          refine GX11_116 sk_203 dX11_next_193 ?_
          rw [f4]
          refine H_iald sk_210 dX11_next_196 ?_
          rw [g1]
          refine E_bipush dX11_next_197 ?_
          refine E_icmp_ne 219 dX11_next_199 (fun h199 => ?_) (fun h199 => ?_)
          · -- 219
            refine E_iconst dX11_next_219 ?_
            refine PX11_122 sk_203 dX11_next_220 ?_
            refine E_goto 285 dX11_next_223 ?_
            refine E_vret dX11_next_285 ?_
            refine done _ ?_
            rw [eT]
            first | (rw [if_pos (by omega)]) | (rw [if_neg (by omega)])
          · -- 202
            refine E_aload_n dX11_next_202 rfl ?_
            refine GX11_113 sk_203 dX11_next_203 ?_
            rw [f2]
            refine E_aload_n dX11_next_206 rfl ?_
            refine GX11_116 sk_203 dX11_next_207 ?_
            rw [f4]
            refine E_isub dX11_next_210 ?_
            refine E_iconst dX11_next_211 ?_
            refine E_icmp_le 219 dX11_next_212 (fun h212 => ?_) (fun h212 => ?_)
            · -- 219
              refine E_iconst dX11_next_219 ?_
              refine PX11_122 sk_203 dX11_next_220 ?_
              refine E_goto 285 dX11_next_223 ?_
              refine E_vret dX11_next_285 ?_
              refine done _ ?_
              rw [eT]
              first | (rw [if_pos (by omega)]) | (rw [if_neg (by omega)])
            · -- 215
              refine E_iconst dX11_next_215 ?_
              refine E_goto 220 dX11_next_216 ?_
              refine PX11_122 sk_203 dX11_next_220 ?_
              refine E_goto 285 dX11_next_223 ?_
              refine E_vret dX11_next_285 ?_
              refine done _ ?_
              rw [eT]
              first | (rw [if_pos (by omega)]) | (rw [if_neg (by omega)])
      refine E_aload_n dX11_next_38 rfl ?_
      refine E_aload_n dX11_next_39 rfl ?_
      refine GX11_113 sk_203 dX11_next_40 ?_
      rw [h1]
      refine PX11_116 sk_203 dX11_next_43 ?_
      refine E_aload_n dX11_next_46 rfl ?_
      refine E_iconst dX11_next_47 ?_
      refine PX11_119 sk_203 dX11_next_48 ?_
      rw [hM0]
      refine E_aload_n dX11_next_51 rfl ?_
      refine GX11_113 sk_203 dX11_next_52 ?_
      rw [e13]
      refine E_aload_n dX11_next_55 rfl ?_
      refine GX11_110 sk_203 dX11_next_56 ?_
      rw [e12]
      refine E_icmp_ne 70 dX11_next_59 (fun h59 => ?_) (fun h59 => ?_)
      · -- 70
        refine E_aload_n dX11_next_70 rfl ?_
        refine GX11_29 sk_203 dX11_next_71 ?_
        refine E_aload_n dX11_next_74 rfl ?_
        refine GX11_113 sk_203 dX11_next_75 ?_
        rw [e13]
        refine H_iald sk_210 dX11_next_78 ?_
        rw [e210, hat]
        refine E_i2l dX11_next_79 ?_
        refine E_ldc2 dX11_next_80 coX11_125 ?_
        refine E_ldc2 dX11_next_83 coX11_127 ?_
        refine E_callSR dX11_next_86 lkX11_63 (hin) ?_
        refine E_if_eq 226 dX11_next_89 (fun h89 => ?_) (fun h89 => ?_)
        · -- 226
          exact absurd h89 (by decide)
        · -- 92
          exact nx_dig (μ := μ0) (k14 := b.length) (ho.x hX) hx (c :: r) b 0 μ0 hb e13 e16 (by omega) (by omega) e14 OffK.rf fin
      · -- 62
        exfalso; omega
    · have hdg : isDg c = false := isDg_f.mpr hd
      rw [cif_neg hd] at hin
      have eR : tkR (c :: r) = r := by simp [tkR, hdg]
      have eT : modT (c :: r) = if c = 111 ∨ c = 110 ∨ c = 102 ∨ c = 45 ∨ c = 59 then c else 2 := by simp [modT, hdg]
      have done : ∀ x : Int, x = modT (c :: r) → V0 (fun μ' => MTk μ' t (c :: r) ∧ OffK μ μ') none (Hp (up (up μ0 203 15 x) 203 13 ((b.length : Int) + 1))) := by
        intro x hx1
        refine ⟨rfl, _, rfl, ⟨?_, ?_, ?_, ?_, ?_, fun h => ?_, b, hb⟩, (ho.fld (by omega)).fld (by omega)⟩
        · rw [up_r, if_pos rfl, eR]; omega
        · rw [up_r, if_neg (by omega), up_r, if_neg (by omega), e14]; simp; omega
        · rw [up_r, if_neg (by omega), up_r, if_pos rfl]; exact hx1
        · rw [up_r, if_neg (by omega), up_r, if_neg (by omega), e16]; omega
        · rw [up_r, if_neg (by omega), up_r, if_neg (by omega), e16]; omega
        · rw [eT] at h; split at h <;> omega
      refine E_aload_n dX11_next_38 rfl ?_
      refine E_aload_n dX11_next_39 rfl ?_
      refine GX11_113 sk_203 dX11_next_40 ?_
      rw [h1]
      refine PX11_116 sk_203 dX11_next_43 ?_
      refine E_aload_n dX11_next_46 rfl ?_
      refine E_iconst dX11_next_47 ?_
      refine PX11_119 sk_203 dX11_next_48 ?_
      rw [hM0]
      refine E_aload_n dX11_next_51 rfl ?_
      refine GX11_113 sk_203 dX11_next_52 ?_
      rw [e13]
      refine E_aload_n dX11_next_55 rfl ?_
      refine GX11_110 sk_203 dX11_next_56 ?_
      rw [e12]
      refine E_icmp_ne 70 dX11_next_59 (fun h59 => ?_) (fun h59 => ?_)
      · -- 70
        refine E_aload_n dX11_next_70 rfl ?_
        refine GX11_29 sk_203 dX11_next_71 ?_
        refine E_aload_n dX11_next_74 rfl ?_
        refine GX11_113 sk_203 dX11_next_75 ?_
        rw [e13]
        refine H_iald sk_210 dX11_next_78 ?_
        rw [e210, hat]
        refine E_i2l dX11_next_79 ?_
        refine E_ldc2 dX11_next_80 coX11_125 ?_
        refine E_ldc2 dX11_next_83 coX11_127 ?_
        refine E_callSR dX11_next_86 lkX11_63 (hin) ?_
        refine E_if_eq 226 dX11_next_89 (fun h89 => ?_) (fun h89 => ?_)
        · -- 226
          refine E_aload_n dX11_next_226 rfl ?_
          refine GX11_29 sk_203 dX11_next_227 ?_
          refine E_aload_n dX11_next_230 rfl ?_
          refine GX11_113 sk_203 dX11_next_231 ?_
          rw [e13]
          refine H_iald sk_210 dX11_next_234 ?_
          rw [e210, hat]
          refine E_istore_n dX11_next_235 ?_
          refine E_aload_n dX11_next_236 rfl ?_
          refine E_iload_n dX11_next_237 rfl ?_
          refine E_bipush dX11_next_238 ?_
          refine E_icmp_eq 267 dX11_next_240 (fun h240 => ?_) (fun h240 => ?_)
          · -- 267
            refine E_iload_n dX11_next_267 rfl ?_
            refine E_goto 272 dX11_next_268 ?_
            refine PX11_122 sk_203 dX11_next_272 ?_
            refine E_aload_n dX11_next_275 rfl ?_
            refine E_dup dX11_next_276 ?_
            refine GX11_113 sk_203 dX11_next_277 ?_
            rw [up_r, if_neg (by omega), e13]
            refine E_iconst dX11_next_280 ?_
            refine E_iadd dX11_next_281 ?_
            refine PX11_113 sk_203 dX11_next_282 ?_
            refine E_vret dX11_next_285 ?_
            refine done _ ?_
            rw [eT]
            first | (rw [if_pos (by omega)]) | (rw [if_neg (by omega)])
          · -- 243
            refine E_iload_n dX11_next_243 rfl ?_
            refine E_bipush dX11_next_244 ?_
            refine E_icmp_eq 267 dX11_next_246 (fun h246 => ?_) (fun h246 => ?_)
            · -- 267
              refine E_iload_n dX11_next_267 rfl ?_
              refine E_goto 272 dX11_next_268 ?_
              refine PX11_122 sk_203 dX11_next_272 ?_
              refine E_aload_n dX11_next_275 rfl ?_
              refine E_dup dX11_next_276 ?_
              refine GX11_113 sk_203 dX11_next_277 ?_
              rw [up_r, if_neg (by omega), e13]
              refine E_iconst dX11_next_280 ?_
              refine E_iadd dX11_next_281 ?_
              refine PX11_113 sk_203 dX11_next_282 ?_
              refine E_vret dX11_next_285 ?_
              refine done _ ?_
              rw [eT]
              first | (rw [if_pos (by omega)]) | (rw [if_neg (by omega)])
            · -- 249
              refine E_iload_n dX11_next_249 rfl ?_
              refine E_bipush dX11_next_250 ?_
              refine E_icmp_eq 267 dX11_next_252 (fun h252 => ?_) (fun h252 => ?_)
              · -- 267
                refine E_iload_n dX11_next_267 rfl ?_
                refine E_goto 272 dX11_next_268 ?_
                refine PX11_122 sk_203 dX11_next_272 ?_
                refine E_aload_n dX11_next_275 rfl ?_
                refine E_dup dX11_next_276 ?_
                refine GX11_113 sk_203 dX11_next_277 ?_
                rw [up_r, if_neg (by omega), e13]
                refine E_iconst dX11_next_280 ?_
                refine E_iadd dX11_next_281 ?_
                refine PX11_113 sk_203 dX11_next_282 ?_
                refine E_vret dX11_next_285 ?_
                refine done _ ?_
                rw [eT]
                first | (rw [if_pos (by omega)]) | (rw [if_neg (by omega)])
              · -- 255
                refine E_iload_n dX11_next_255 rfl ?_
                refine E_bipush dX11_next_256 ?_
                refine E_icmp_eq 267 dX11_next_258 (fun h258 => ?_) (fun h258 => ?_)
                · -- 267
                  refine E_iload_n dX11_next_267 rfl ?_
                  refine E_goto 272 dX11_next_268 ?_
                  refine PX11_122 sk_203 dX11_next_272 ?_
                  refine E_aload_n dX11_next_275 rfl ?_
                  refine E_dup dX11_next_276 ?_
                  refine GX11_113 sk_203 dX11_next_277 ?_
                  rw [up_r, if_neg (by omega), e13]
                  refine E_iconst dX11_next_280 ?_
                  refine E_iadd dX11_next_281 ?_
                  refine PX11_113 sk_203 dX11_next_282 ?_
                  refine E_vret dX11_next_285 ?_
                  refine done _ ?_
                  rw [eT]
                  first | (rw [if_pos (by omega)]) | (rw [if_neg (by omega)])
                · -- 261
                  refine E_iload_n dX11_next_261 rfl ?_
                  refine E_bipush dX11_next_262 ?_
                  refine E_icmp_ne 271 dX11_next_264 (fun h264 => ?_) (fun h264 => ?_)
                  · -- 271
                    refine E_iconst dX11_next_271 ?_
                    refine PX11_122 sk_203 dX11_next_272 ?_
                    refine E_aload_n dX11_next_275 rfl ?_
                    refine E_dup dX11_next_276 ?_
                    refine GX11_113 sk_203 dX11_next_277 ?_
                    rw [up_r, if_neg (by omega), e13]
                    refine E_iconst dX11_next_280 ?_
                    refine E_iadd dX11_next_281 ?_
                    refine PX11_113 sk_203 dX11_next_282 ?_
                    refine E_vret dX11_next_285 ?_
                    refine done _ ?_
                    rw [eT]
                    first | (rw [if_pos (by omega)]) | (rw [if_neg (by omega)])
                  · -- 267
                    refine E_iload_n dX11_next_267 rfl ?_
                    refine E_goto 272 dX11_next_268 ?_
                    refine PX11_122 sk_203 dX11_next_272 ?_
                    refine E_aload_n dX11_next_275 rfl ?_
                    refine E_dup dX11_next_276 ?_
                    refine GX11_113 sk_203 dX11_next_277 ?_
                    rw [up_r, if_neg (by omega), e13]
                    refine E_iconst dX11_next_280 ?_
                    refine E_iadd dX11_next_281 ?_
                    refine PX11_113 sk_203 dX11_next_282 ?_
                    refine E_vret dX11_next_285 ?_
                    refine done _ ?_
                    rw [eT]
                    first | (rw [if_pos (by omega)]) | (rw [if_neg (by omega)])
        · -- 92
          exact absurd rfl h89
      · -- 62
        exfalso; omega
theorem m_next {r : List Int} (hX : RepX μ t) (hx : txOk t) (hS : MTk μ t r) : Ctr G mX11_next [.ref 203] (Hp μ) (V0 (fun μ' => MTk μ' t (nxt r) ∧ OffK μ μ')) := by
  obtain ⟨h1, h2, h3, h4, h5, h6, a, ha⟩ := hS
  obtain ⟨b, hb⟩ := tkR_suf r
  exact m_next0 hX hx h1 ⟨a ++ b, by rw [List.append_assoc, ← hb]; exact ha⟩
end MNEXT
