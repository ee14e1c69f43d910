/-! FibredSpacesModel: the rows of a space -/
def onesI (k : Nat) : List Int := List.replicate k 1
theorem eV_snoc {z : Int} {p : List Fib} {x : Fib} (hp : ∀ y ∈ p, y.1 ≠ 0) (hx : x.1 ≠ 0) : z * pA (p ++ [x]) + bT (pA (p ++ [x])) (p ++ [x]) = (z * pA p + bT (pA p) p) * x.1 + pA p * x.2 := by
  rw [pA_snoc, bT_snoc, bT_scale p (pA p) (fun y hy => ⟨dvd_pA hy, hp y hy⟩), Int.mul_ediv_cancel _ hx]
  grind
theorem fold_onesI : ∀ (k : Nat) (T : List Int), (onesI k).foldl add1 T = T
  | 0, T => rfl
  | k + 1, T => by
    show (onesI k).foldl add1 (add1 T 1) = T
    rw [add1_one, fold_onesI k T]
theorem ediv_prI : ∀ (q : List Int) (x : Int), (∀ y ∈ q, 1 ≤ y) → 0 ≤ x → q.foldl (fun a y => a / y) x = x / prI q
  | [], x, _, _ => by simp [prI]
  | y :: q, x, h, hx => by
    have hy := h y List.mem_cons_self
    show q.foldl (fun a y => a / y) (x / y) = x / (y * prI q)
    rw [ediv_prI q (x / y) (fun z hz => h z (List.mem_cons_of_mem _ hz)) (Int.ediv_nonneg hx (by omega)), Int.ediv_ediv_of_nonneg (by omega)]
theorem shl64_ok : ∀ t : Fin 9, Int64.ofInt 1 <<< ((Int32.ofInt (t.val : Int)).toInt64 &&& 63) = Int64.ofInt ((2 ^ t.val : Nat) : Int) := by decide +kernel
section MFINDROWS
variable {G : GT} {μ : Mem} {M : HV} {σ : St}
theorem fr_ones {i : Int} {n : Nat} {Q : QT} (hk : ∀ (μ2 : Mem) (w : Value), RepV μ2 211 (onesI 8) → OffR μ μ2 → E G mX11_findRows (Zq G mX11_findRows Q) 0 0 27 [.ref 203, vi i, vi (n : Int), w, .retAddr 0, .retAddr 0, .retAddr 0, .retAddr 0, .retAddr 0] [] (Hp μ2)) : ∀ (t k : Nat) (μ' : Mem), k + t = 8 → RepV μ' 211 (onesI k) → OffR μ μ' →
    E G mX11_findRows (Zq G mX11_findRows Q) 0 0 8 [.ref 203, vi i, vi (n : Int), vi (k : Int), .retAddr 0, .retAddr 0, .retAddr 0, .retAddr 0, .retAddr 0] [] (Hp μ')
  | 0, k, μ', e, h1, h2 => by
    have : k = 8 := by omega
    subst this
    refine E_iload_n dX11_findRows_8 rfl ?_
    refine E_bipush dX11_findRows_9 ?_
    refine E_icmp_ge 27 dX11_findRows_11 (fun h11 => ?_) (fun h11 => ?_)
    · -- 27
      exact hk μ' _ h1 h2
    · -- 14
      exfalso; omega
  | t + 1, k, μ', e, h1, h2 => by
    have ih := fr_ones hk t (k + 1)
    rw [show ((k + 1 : Nat) : Int) = (k : Int) + 1 by omega] at ih
    have h3 := h1.push 1
    rw [show ((onesI k).length : Int) = (k : Int) by simp [onesI], show onesI k ++ [1] = onesI (k + 1) by simp [onesI, List.replicate_succ']] at h3
    refine E_iload_n dX11_findRows_8 rfl ?_
    refine E_bipush dX11_findRows_9 ?_
    refine E_icmp_ge 27 dX11_findRows_11 (fun h11 => ?_) (fun h11 => ?_)
    · -- 27
      exfalso; omega
    · -- 14
      refine E_aload_n dX11_findRows_14 rfl ?_
      refine GX11_32 sk_203 dX11_findRows_15 ?_
      refine E_iload_n dX11_findRows_18 rfl ?_
      refine E_lconst1 dX11_findRows_19 ?_
      refine H_last sk_211 dX11_findRows_20 ?_
      refine E_iinc dX11_findRows_21 rfl ?_
      refine E_goto 8 dX11_findRows_24 ?_
      exact ih _ (by omega) h3 h2.row
theorem f0_copy {i : Int} {s : Sp} {Q : QT} (hi : isS i) (hs : RepN μ 204 (16 * i) s) (hok : spOk s) (hk : ∀ (μ2 : Mem) (w : Value), RepV μ2 211 (s.2.2.2.map Prod.fst) → OffR μ μ2 → E G mX11_findRows (Zq G mX11_findRows Q) 0 0 67 [.ref 203, vi i, vi (s.2.2.2.length : Int), w, .retAddr 0, .retAddr 0, .retAddr 0, .retAddr 0, .retAddr 0] [] (Hp μ2)) : ∀ (q p : List Fib) (μ' : Mem), p ++ q = s.2.2.2 → RepV μ' 211 (p.map Prod.fst) → OffR μ μ' →
    E G mX11_findRows (Zq G mX11_findRows Q) 0 0 43 [.ref 203, vi i, vi (s.2.2.2.length : Int), vi (p.length : Int), .retAddr 0, .retAddr 0, .retAddr 0, .retAddr 0, .retAddr 0] [] (Hp μ') := by
  have hb := hok.2.2.2.2.2.1
  intro q
  induction q with
  | nil =>
    intro p μ' h1 h2 h3
    have hl : p.length = s.2.2.2.length := by rw [← h1]; simp
    refine E_iload_n dX11_findRows_43 rfl ?_
    refine E_iload_n dX11_findRows_44 rfl ?_
    refine E_icmp_ge 67 dX11_findRows_45 (fun h45 => ?_) (fun h45 => ?_)
    · -- 67
      refine hk μ' _ ?_ h3
      rw [← h1, List.append_nil]; exact h2
    · -- 48
      exfalso; omega
  | cons x q ih =>
    intro p μ' h1 h2 h3
    have hl : p.length + 1 + q.length = s.2.2.2.length := by rw [← h1]; simp; omega
    have hx : s.2.2.2[p.length]? = some x := by rw [← h1]; simp
    obtain ⟨x1, x2, x3, x4, -⟩ := hok.2.2.2.2.2.2 x (List.mem_of_getElem? hx)
    have hp := h2.push x.1
    rw [show ((p.map Prod.fst).length : Int) = (p.length : Int) by simp] at hp
    have t := ih (p ++ [x]) (up μ' 211 (p.length : Int) x.1) (by rw [← h1]; simp) (by simpa using hp) h3.row
    rw [show ((p ++ [x]).length : Int) = (p.length : Int) + 1 by simp] at t
    refine E_iload_n dX11_findRows_43 rfl ?_
    refine E_iload_n dX11_findRows_44 rfl ?_
    refine E_icmp_ge 67 dX11_findRows_45 (fun h45 => ?_) (fun h45 => ?_)
    · -- 67
      exfalso; omega
    · -- 48
      refine E_aload_n dX11_findRows_48 rfl ?_
      refine GX11_32 sk_203 dX11_findRows_49 ?_
      refine E_iload_n dX11_findRows_52 rfl ?_
      refine E_aload_n dX11_findRows_53 rfl ?_
      refine E_iload_n dX11_findRows_54 rfl ?_
      refine E_iload_n dX11_findRows_55 rfl ?_
      refine E_callVR dX11_findRows_56 lkX11_90 (Hp_get sk_203) (m_a hi (hs.kept h3.now) (by omega) hx) ?_
      refine E_i2l dX11_findRows_59 ?_
      refine H_last sk_211 dX11_findRows_60 ?_
      refine E_iinc dX11_findRows_61 rfl ?_
      refine E_goto 43 dX11_findRows_64 ?_
      exact t
theorem f0_sum {i : Int} {s : Sp} {Q : QT} {w8 : Value} (hi : isS i) (hs : RepN μ 204 (16 * i) s) (hok : spOk s) (hk : ∀ (w5 w7 : Value), E G mX11_findRows (Zq G mX11_findRows Q) 0 0 139 [.ref 203, vi i, vi (s.2.2.2.length : Int), vl (eT s), .retAddr 0, w5, .retAddr 0, w7, w8] [] (Hp μ)) : ∀ (q p : List Fib), p ++ q = s.2.2.2 →
    E G mX11_findRows (Zq G mX11_findRows Q) 0 0 91 [.ref 203, vi i, vi (s.2.2.2.length : Int), vl (s.2.2.1 * pA p + bT (pA p) p), .retAddr 0, vl (pA p), .retAddr 0, vi (p.length : Int), w8] [] (Hp μ) := by
  have hb := hok.2.2.2.2.2.1
  intro q
  induction q with
  | nil =>
    intro p h1
    have hl : p.length = s.2.2.2.length := by rw [← h1]; simp
    have hp : p = s.2.2.2 := by rw [← h1]; simp
    have e : s.2.2.1 * pA p + bT (pA p) p = eT s := by rw [hp]; rfl
    rw [e]
    refine E_iload dX11_findRows_91 rfl ?_
    refine E_iload_n dX11_findRows_93 rfl ?_
    refine E_icmp_ge 139 dX11_findRows_94 (fun h94 => ?_) (fun h94 => ?_)
    · -- 139
      exact hk _ _
    · -- 97
      exfalso; omega
  | cons x q ih =>
    intro p h1
    have hl : p.length + 1 + q.length = s.2.2.2.length := by rw [← h1]; simp; omega
    have hx : s.2.2.2[p.length]? = some x := by rw [← h1]; simp
    obtain ⟨x1, x2, x3, x4, -⟩ := hok.2.2.2.2.2.2 x (List.mem_of_getElem? hx)
    have t := ih (p ++ [x]) (by rw [← h1]; simp)
    rw [show ((p ++ [x]).length : Int) = (p.length : Int) + 1 by simp, eV_snoc (fun y hy => by have := (hok.2.2.2.2.2.2 y (by rw [← h1]; simp [hy])).1; omega) (by omega), pA_snoc] at t
    refine E_iload dX11_findRows_91 rfl ?_
    refine E_iload_n dX11_findRows_93 rfl ?_
    refine E_icmp_ge 139 dX11_findRows_94 (fun h94 => ?_) (fun h94 => ?_)
    · -- 139
      exfalso; omega
    · -- 97
      refine E_lload_n dX11_findRows_97 rfl ?_
      refine E_aload_n dX11_findRows_98 rfl ?_
      refine E_iload_n dX11_findRows_99 rfl ?_
      refine E_iload dX11_findRows_100 rfl ?_
      refine E_callVR dX11_findRows_102 lkX11_90 (Hp_get sk_203) (m_a hi hs (by omega) hx) ?_
      refine E_i2l dX11_findRows_105 ?_
      refine E_lmul dX11_findRows_106 ?_
      refine E_lload dX11_findRows_107 rfl ?_
      refine E_aload_n dX11_findRows_109 rfl ?_
      refine E_iload_n dX11_findRows_110 rfl ?_
      refine E_iload dX11_findRows_111 rfl ?_
      refine E_callVR dX11_findRows_113 lkX11_93 (Hp_get sk_203) (m_b hi hs (by omega) hx) ?_
      refine E_i2l dX11_findRows_116 ?_
      refine E_lmul dX11_findRows_117 ?_
      refine E_ladd dX11_findRows_118 ?_
      refine E_lstore_n dX11_findRows_119 ?_
      refine E_lload dX11_findRows_120 rfl ?_
      refine E_aload_n dX11_findRows_122 rfl ?_
      refine E_iload_n dX11_findRows_123 rfl ?_
      refine E_iload dX11_findRows_124 rfl ?_
      refine E_callVR dX11_findRows_126 lkX11_90 (Hp_get sk_203) (m_a hi hs (by omega) hx) ?_
      refine E_i2l dX11_findRows_129 ?_
      refine E_lmul dX11_findRows_130 ?_
      refine E_lstore dX11_findRows_131 ?_
      refine E_iinc dX11_findRows_133 rfl ?_
      refine E_goto 91 dX11_findRows_136 ?_
      exact t
theorem f0_div {i : Int} {n : Nat} {last : Nat} {C : List Int} {Q : QT} (hC : RepV μ 211 C) (hok : okL C) (hl : last ≤ C.length) (h6 : C.length ≤ 6) {R : Int} {w5 : Value} (hk2 : ∀ w8 : Value, E G mX11_findRows (Zq G mX11_findRows Q) 0 0 192 [.ref 203, vi i, vi (n : Int), vl R, .retAddr 0, w5, .retAddr 0, vi (last : Int), w8] [] (Hp μ)) : ∀ (q p : List Int) (x : Int), p ++ q = C.take last → 0 ≤ x → x ≤ 9000000000000 → q.foldl (fun a y => a / y) x = R →
    E G mX11_findRows (Zq G mX11_findRows Q) 0 0 169 [.ref 203, vi i, vi (n : Int), vl x, .retAddr 0, w5, .retAddr 0, vi (last : Int), vi (p.length : Int)] [] (Hp μ) := by
  have hlt : (C.take last).length = last := by rw [List.length_take]; omega
  intro q
  induction q with
  | nil =>
    intro p x h1 h2 h3 h4
    have hpl : p.length = last := by rw [← hlt, ← h1]; simp
    rw [show x = R from h4]
    refine E_iload dX11_findRows_169 rfl ?_
    refine E_iload dX11_findRows_171 rfl ?_
    refine E_icmp_ge 192 dX11_findRows_173 (fun h173 => ?_) (fun h173 => ?_)
    · -- 192
      exact hk2 _
    · -- 176
      exfalso; omega
  | cons y q ih =>
    intro p x h1 h2 h3 h4
    have hpl : p.length + 1 + q.length = last := by rw [← hlt, ← h1]; simp; omega
    have hat : (C.take last)[p.length]? = some y := by rw [← h1]; simp
    have hat2 : C[p.length]? = some y := by rw [List.getElem?_take] at hat; split at hat; exact hat; simp at hat
    have hy := hok.le (List.mem_of_getElem? hat2)
    have hv : μ 211 (p.length : Int) = y := hC p.length y hat2
    have hd : x.tdiv y = x / y := Int.tdiv_eq_ediv_of_nonneg h2
    have d1 := Int.ediv_nonneg h2 (show 0 ≤ y by omega)
    have d2 : x / y ≤ x := Int.ediv_le_self _ h2
    have t := ih (p ++ [y]) (x / y) (by rw [← h1]; simp) d1 (by omega) h4
    rw [show ((p ++ [y]).length : Int) = (p.length : Int) + 1 by simp] at t
    refine E_iload dX11_findRows_169 rfl ?_
    refine E_iload dX11_findRows_171 rfl ?_
    refine E_icmp_ge 192 dX11_findRows_173 (fun h173 => ?_) (fun h173 => ?_)
    · -- 192
      exfalso; omega
    · -- 176
      refine E_lload_n dX11_findRows_176 rfl ?_
      refine E_aload_n dX11_findRows_177 rfl ?_
      refine GX11_32 sk_203 dX11_findRows_178 ?_
      refine E_iload dX11_findRows_181 rfl ?_
      refine H_lald sk_211 dX11_findRows_183 ?_
      rw [hv]
      refine E_ldiv dX11_findRows_184 ?_
      rw [hd]
      refine E_lstore_n dX11_findRows_185 ?_
      refine E_iinc dX11_findRows_186 rfl ?_
      refine E_goto 169 dX11_findRows_189 ?_
      exact t
theorem f0_reset {i : Int} {n last : Nat} {x : Int} {w5 : Value} {Q : QT} (hk : ∀ (μ2 : Mem) (w8 : Value), (∀ j : Nat, last ≤ j → j < 8 → μ2 211 j = 1) → (∀ j : Int, j < last → μ2 211 j = μ 211 j) → OffR μ μ2 → E G mX11_findRows (Zq G mX11_findRows Q) 0 0 217 [.ref 203, vi i, vi (n : Int), vl x, .retAddr 0, w5, .retAddr 0, vi (last : Int), w8] [] (Hp μ2)) : ∀ (t k : Nat) (μ' : Mem), k + t = 8 → last ≤ k → (∀ j : Nat, last ≤ j → j < k → μ' 211 j = 1) → (∀ j : Int, j < last → μ' 211 j = μ 211 j) → OffR μ μ' →
    E G mX11_findRows (Zq G mX11_findRows Q) 0 0 196 [.ref 203, vi i, vi (n : Int), vl x, .retAddr 0, w5, .retAddr 0, vi (last : Int), vi (k : Int)] [] (Hp μ')
  | 0, k, μ', e, h0, h1, h2, h3 => by
    have : k = 8 := by omega
    subst this
    refine E_iload dX11_findRows_196 rfl ?_
    refine E_bipush dX11_findRows_198 ?_
    refine E_icmp_ge 217 dX11_findRows_200 (fun h200 => ?_) (fun h200 => ?_)
    · -- 217
      exact hk μ' _ h1 h2 h3
    · -- 203
      exfalso; omega
  | t + 1, k, μ', e, h0, h1, h2, h3 => by
    have ih := f0_reset hk t (k + 1)
    rw [show ((k + 1 : Nat) : Int) = (k : Int) + 1 by omega] at ih
    refine E_iload dX11_findRows_196 rfl ?_
    refine E_bipush dX11_findRows_198 ?_
    refine E_icmp_ge 217 dX11_findRows_200 (fun h200 => ?_) (fun h200 => ?_)
    · -- 217
      exfalso; omega
    · -- 203
      refine E_aload_n dX11_findRows_203 rfl ?_
      refine GX11_32 sk_203 dX11_findRows_204 ?_
      refine E_iload dX11_findRows_207 rfl ?_
      refine E_lconst1 dX11_findRows_209 ?_
      refine H_last sk_211 dX11_findRows_210 ?_
      refine E_iinc dX11_findRows_211 rfl ?_
      refine E_goto 196 dX11_findRows_214 ?_
      refine ih _ (by omega) (by omega) (fun j j0 j1 => ?_) (fun j hj => by rw [up_r, if_neg (by omega)]; exact h2 j hj) h3.row
      rw [up_r]
      by_cases ej : j = k
      · rw [if_pos (by omega)]
      · rw [if_neg (by omega)]; exact h1 j j0 (by omega)
/-- rows are what the torsion is made of -/
theorem fr_end {s : Sp} {R : List Int} {μ1 : Mem} {i n : Int} {w3 w4 w5 w6 w7 w8 : Value} (hR : R.length = 8) (hr : ∀ x ∈ R, -4000000000000000000 ≤ x ∧ x ≤ 4000000000000000000) (hv : RepV μ1 211 R) (hf : R.foldl add1 [] = torC s) (ho : OffR μ μ1) :
    E G mX11_findRows (Zq G mX11_findRows (V0 (fun μ' => RowQ μ' (torC s) ∧ OffR μ μ'))) 0 0 416 [.ref 203, vi i, vi n, w3, w4, w5, w6, w7, w8] [] (Hp μ1) := by
  have hd := m_dropOnes (G := G) hR hr hv
  rw [hf] at hd
  refine E_aload_n dX11_findRows_416 rfl ?_
  refine E_callVV dX11_findRows_417 lkX11_211 (Hp_get sk_203) (hd) ?_
  rintro μ2 ⟨g1, g2⟩
  refine E_vret dX11_findRows_420 ?_
  exact ⟨rfl, _, rfl, g1, ho.tr g2⟩
theorem fr_0 {i : Int} {s : Sp} {w : Value} {μ1 : Mem} (hi : isS i) (hs : RepN μ 204 (16 * i) s) (hok : spOk s) (h0 : s.1 = 0) (ho : OffR μ μ1) :
    E G mX11_findRows (Zq G mX11_findRows (V0 (fun μ' => RowQ μ' (torC s) ∧ OffR μ μ'))) 0 0 41 [.ref 203, vi i, vi (s.2.2.2.length : Int), w, .retAddr 0, .retAddr 0, .retAddr 0, .retAddr 0, .retAddr 0] [] (Hp μ1) := by
  have j1 := hi.1
  have j2 := hi.2
  have hb := hok.2.2.2.2.2.1
  have he := eT_rng hok
  have hokL := okL_of hok
  refine E_iconst dX11_findRows_41 (E_istore_n dX11_findRows_42 ?_)
  refine f0_copy (μ := μ) hi hs hok (fun μ2 w g1 g2 => ?_) s.2.2.2 [] μ1 rfl RepV.nil ho
  have hso := m_sortRows (G := G) (μ := μ2) (l := s.2.2.2.map Prod.fst) (by simp; omega) g1 hokL
  rw [show ((s.2.2.2.map Prod.fst).length : Int) = (s.2.2.2.length : Int) by simp] at hso
  have hlen := chain_len (s.2.2.2.map Prod.fst)
  rw [List.length_map] at hlen
  generalize hC : chain (s.2.2.2.map Prod.fst) = C at hso hlen
  generalize hlast : s.2.2.2.length - 2 = last
  have hll : last ≤ C.length := by omega
  generalize hX : ((eT s).natAbs : Int) / prI (C.take last) = X
  have fin : ∀ (μ3 : Mem) (w5 w8 : Value), RepV μ3 211 C → okL C → OffR μ μ3 → E G mX11_findRows (Zq G mX11_findRows (V0 (fun μ' => RowQ μ' (torC s) ∧ OffR μ μ'))) 0 0 192 [.ref 203, vi i, vi (s.2.2.2.length : Int), vl X, .retAddr 0, w5, .retAddr 0, vi (last : Int), w8] [] (Hp μ3) := by
    intro μ3 w5 w8 k1 k2 k3
    have hpr := prI_take k2 last
    have x0 : 0 ≤ X := by rw [← hX]; exact Int.ediv_nonneg (by omega) (by omega)
    have x1 : X ≤ 800000000000 := by
      have := Int.ediv_le_self (a := ((eT s).natAbs : Int)) (prI (C.take last)) (by omega)
      omega
    refine E_iload dX11_findRows_192 rfl (E_istore dX11_findRows_194 ?_)
    refine f0_reset (μ := μ3) (fun μ4 w8 g1 g2 g3 => ?_) (8 - last) last μ3 (by omega) (Nat.le_refl _) (fun j a b => by omega) (fun _ _ => rfl) OffR.rf
    have done : ∀ z : Int, z = (if X = 0 then 1 else X) → E G mX11_findRows (Zq G mX11_findRows (V0 (fun μ' => RowQ μ' (torC s) ∧ OffR μ μ'))) 0 0 416 [.ref 203, vi i, vi (s.2.2.2.length : Int), vl X, .retAddr 0, w5, .retAddr 0, vi (last : Int), w8] [] (Hp (up μ4 211 (last : Int) z)) := by
      intro z hz
      have zr : 0 ≤ z ∧ z ≤ 800000000000 := by rw [hz]; split <;> omega
      have hRV : RepV (up μ4 211 (last : Int) z) 211 (C.take last ++ z :: onesI (7 - last)) := by
        intro k x hx
        rw [up_r]
        have htl : (C.take last).length = last := by rw [List.length_take]; omega
        by_cases e1 : k < last
        · rw [if_neg (by omega), g2 k (by omega)]
          rw [List.getElem?_append_left (by omega)] at hx
          exact k1.take k x hx
        · rw [List.getElem?_append_right (by omega), htl] at hx
          by_cases e2 : k = last
          · subst e2
            rw [if_pos rfl]
            simp at hx; exact hx
          · rw [if_neg (by omega)]
            obtain ⟨j, hj⟩ : ∃ j, k - last = j + 1 := ⟨k - last - 1, by omega⟩
            rw [hj] at hx
            simp only [List.getElem?_cons_succ, onesI, List.getElem?_replicate] at hx
            split at hx
            · simp at hx
              rw [g1 k (by omega) (by omega)]; exact hx
            · simp at hx
      refine fr_end (μ := μ) (R := C.take last ++ z :: onesI (7 - last)) ?_ (fun y hy => ?_) hRV ?_ ((k3.tr g3).row)
      · simp [onesI]; omega
      · rcases List.mem_append.mp hy with h | h
        · have := k2.le (List.mem_of_mem_take h); omega
        · rcases List.mem_cons.mp h with rfl | h
          · omega
          · have := (List.mem_replicate.mp h).2; omega
      · rw [List.foldl_append]
        show (onesI (7 - last)).foldl add1 (add1 ((C.take last).foldl add1 []) z) = _
        rw [fold_onesI]
        unfold torC
        simp only
        rw [if_pos h0, hC, hlast, hX, hz]
        by_cases e : X = 0
        · rw [if_pos e, e, add1_one]
          exact (if_neg (by omega)).symm
        · rw [if_neg e]
    refine E_aload_n dX11_findRows_217 rfl ?_
    refine GX11_32 sk_203 dX11_findRows_218 ?_
    refine E_iload dX11_findRows_221 rfl ?_
    refine E_lload_n dX11_findRows_223 rfl ?_
    refine E_lconst0 dX11_findRows_224 ?_
    refine E_lcmp_ne 233 dX11_findRows_225 dX11_findRows_226 (fun h225 => ?_) (fun h225 => ?_)
    · -- 233
      refine E_lload_n dX11_findRows_233 rfl ?_
      refine H_last sk_211 dX11_findRows_234 ?_
      refine E_goto 416 dX11_findRows_235 ?_
      refine done _ ?_
      first | (rw [if_pos (by assumption)]) | (rw [if_neg (by assumption)])
    · -- 229
      refine E_lconst1 dX11_findRows_229 ?_
      refine E_goto 234 dX11_findRows_230 ?_
      refine H_last sk_211 dX11_findRows_234 ?_
      refine E_goto 416 dX11_findRows_235 ?_
      refine done _ ?_
      first | (rw [if_pos (by assumption)]) | (rw [if_neg (by assumption)])
  have divs : ∀ (μ3 : Mem) (w5 w7 w8 : Value), RepV μ3 211 C → okL C → OffR μ μ3 → E G mX11_findRows (Zq G mX11_findRows (V0 (fun μ' => RowQ μ' (torC s) ∧ OffR μ μ'))) 0 0 139 [.ref 203, vi i, vi (s.2.2.2.length : Int), vl (eT s), .retAddr 0, w5, .retAddr 0, w7, w8] [] (Hp μ3) := by
    intro μ3 w5 w7 w8 k1 k2 k3
    have go : ∀ (x l : Int), x = ((eT s).natAbs : Int) → l = (last : Int) → E G mX11_findRows (Zq G mX11_findRows (V0 (fun μ' => RowQ μ' (torC s) ∧ OffR μ μ'))) 0 0 164 [.ref 203, vi i, vi (s.2.2.2.length : Int), vl x, .retAddr 0, w5, .retAddr 0, w7, w8] [vi l] (Hp μ3) := by
      intro x l hx hl
      rw [hx, hl]
      refine E_istore dX11_findRows_164 (E_iconst dX11_findRows_166 (E_istore dX11_findRows_167 ?_))
      refine f0_div (μ := μ3) (C := C) (R := X) k1 k2 hll (by omega) (fun w8 => fin μ3 w5 w8 k1 k2 k3) (C.take last) [] _ rfl (by omega) (by omega) ?_
      rw [ediv_prI _ _ (fun y hy => (k2.le (List.mem_of_mem_take hy)).1) (by omega)]
      exact hX
    refine E_lload_n dX11_findRows_139 rfl ?_
    refine E_lconst0 dX11_findRows_140 ?_
    refine E_lcmp_ge 150 dX11_findRows_141 dX11_findRows_142 (fun h141 => ?_) (fun h141 => ?_)
    · -- 150
      refine E_lload_n dX11_findRows_150 rfl ?_
      refine E_lstore_n dX11_findRows_151 ?_
      refine E_iload_n dX11_findRows_152 rfl ?_
      refine E_iconst dX11_findRows_153 ?_
      refine E_icmp_ge 161 dX11_findRows_154 (fun h154 => ?_) (fun h154 => ?_)
      · -- 161
        refine E_iload_n dX11_findRows_161 rfl ?_
        refine E_iconst dX11_findRows_162 ?_
        refine E_isub dX11_findRows_163 ?_
        exact go _ _ (by omega) (by omega)
      · -- 157
        refine E_iconst dX11_findRows_157 ?_
        refine E_goto 164 dX11_findRows_158 ?_
        exact go _ _ (by omega) (by omega)
    · -- 145
      refine E_lload_n dX11_findRows_145 rfl ?_
      refine E_lneg dX11_findRows_146 ?_
      refine E_goto 151 dX11_findRows_147 ?_
      refine E_lstore_n dX11_findRows_151 ?_
      refine E_iload_n dX11_findRows_152 rfl ?_
      refine E_iconst dX11_findRows_153 ?_
      refine E_icmp_ge 161 dX11_findRows_154 (fun h154 => ?_) (fun h154 => ?_)
      · -- 161
        refine E_iload_n dX11_findRows_161 rfl ?_
        refine E_iconst dX11_findRows_162 ?_
        refine E_isub dX11_findRows_163 ?_
        exact go _ _ (by omega) (by omega)
      · -- 157
        refine E_iconst dX11_findRows_157 ?_
        refine E_goto 164 dX11_findRows_158 ?_
        exact go _ _ (by omega) (by omega)
  refine E_aload_n dX11_findRows_67 rfl (E_iload_n dX11_findRows_68 rfl (E_callVV dX11_findRows_69 lkX11_205 (Hp_get sk_203) hso (fun μ3 g3 => ?_)))
  obtain ⟨k1, k2, k3⟩ := g3
  have ho3 := g2.tr k3
  have hs3 := hs.kept ho3.now
  have hsum := fun (w8 : Value) => f0_sum (G := G) (μ := μ3) (w8 := w8) (Q := V0 (fun μ' => RowQ μ' (torC s) ∧ OffR μ μ')) hi hs3 hok (fun w5 w7 => divs μ3 w5 w7 w8 k1 k2 ho3) s.2.2.2 [] rfl
  have e0 : s.2.2.1 * pA [] + bT (pA []) [] = s.2.2.1 := by simp [pA, bT]
  rw [e0] at hsum
  have hsh := hok.2.2.2.1
  have hsh2 := hok.2.2.2.2.1
  refine E_aload_n dX11_findRows_72 rfl ?_
  refine GX11_7 sk_203 dX11_findRows_73 ?_
  refine E_bipush dX11_findRows_76 ?_
  refine E_iload_n dX11_findRows_78 rfl ?_
  refine E_imul dX11_findRows_79 ?_
  refine E_iconst dX11_findRows_80 ?_
  refine E_iadd dX11_findRows_81 ?_
  refine H_iald sk_204 dX11_findRows_82 ?_
  rw [hs3.2.2.1]
  refine E_i2l dX11_findRows_83 ?_
  refine E_lstore_n dX11_findRows_84 ?_
  refine E_lconst1 dX11_findRows_85 ?_
  refine E_lstore dX11_findRows_86 ?_
  refine E_iconst dX11_findRows_88 ?_
  refine E_istore dX11_findRows_89 ?_
  exact hsum _
end MFINDROWS
