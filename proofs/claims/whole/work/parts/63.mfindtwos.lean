/-! FibredSpacesModel: the twos of a space -/
section MFINDTWOS
variable {G : GT} {μ : Mem} {M : HV} {σ : St}
theorem ft_zero {i : Int} {n : Nat} {Q : QT} (hk : ∀ (μ2 : Mem) (w : Value), (∀ j : Int, 0 ≤ j → j < 64 → μ2 212 j = 0) → (∀ q : Nat, q ≠ 212 → μ2 q = μ q) → E G mX11_findTwos (Zq G mX11_findTwos Q) 0 0 34 [.ref 203, vi i, vi (n : Int), vi ((n : Int) + 2), w] [] (Hp μ2)) : ∀ (t k : Nat) (μ' : Mem), k + t = 64 → (∀ j : Int, 0 ≤ j → j < k → μ' 212 j = 0) → (∀ q : Nat, q ≠ 212 → μ' q = μ q) →
    E G mX11_findTwos (Zq G mX11_findTwos Q) 0 0 13 [.ref 203, vi i, vi (n : Int), vi ((n : Int) + 2), vi (k : Int)] [] (Hp μ')
  | 0, k, μ', e, h1, h2 => by
    have : k = 64 := by omega
    subst this
    refine E_iload dX11_findTwos_13 rfl ?_
    refine E_bipush dX11_findTwos_15 ?_
    refine E_icmp_ge 34 dX11_findTwos_17 (fun h17 => ?_) (fun h17 => ?_)
    · -- 34
      exact hk μ' _ h1 h2
    · -- 20
      exfalso; omega
  | t + 1, k, μ', e, h1, h2 => by
    have ih := ft_zero hk t (k + 1)
    rw [show ((k + 1 : Nat) : Int) = (k : Int) + 1 by omega] at ih
    refine E_iload dX11_findTwos_13 rfl ?_
    refine E_bipush dX11_findTwos_15 ?_
    refine E_icmp_ge 34 dX11_findTwos_17 (fun h17 => ?_) (fun h17 => ?_)
    · -- 34
      exfalso; omega
    · -- 20
      refine E_aload_n dX11_findTwos_20 rfl ?_
      refine GX11_36 sk_203 dX11_findTwos_21 ?_
      refine E_iload dX11_findTwos_24 rfl ?_
      refine E_iconst dX11_findTwos_26 ?_
      refine H_iast sk_212 dX11_findTwos_27 ?_
      refine E_iinc dX11_findTwos_28 rfl ?_
      refine E_goto 13 dX11_findTwos_31 ?_
      refine ih _ (by omega) (fun j j0 j1 => ?_) (fun q hq => by rw [up_ne q hq]; exact h2 q hq)
      rw [up_r]
      by_cases ej : j = (k : Int)
      · rw [if_pos ej]
      · rw [if_neg ej]; exact h1 j j0 (by omega)
def grP (s : Sp) (f r c : Nat) : Int := if r ≤ f ∨ (r = s.2.2.2.length + 1 ∧ 1 ≤ c ∧ c ≤ f) then grd s r c else 0
theorem ft_fib {i : Int} {s : Sp} {Q : QT} (hi : isS i) (hs : RepN μ 204 (16 * i) s) (hok : spOk s) (hk : ∀ (μ2 : Mem) (w : Value), (∀ r c : Nat, r < 8 → c < 8 → gM μ2 r c = grP s s.2.2.2.length r c) → (∀ q : Nat, q ≠ 212 → μ2 q = μ q) → E G mX11_findTwos (Zq G mX11_findTwos Q) 0 0 116 [.ref 203, vi i, vi (s.2.2.2.length : Int), vi ((s.2.2.2.length : Int) + 2), w] [] (Hp μ2)) : ∀ (q p : List Fib) (μ' : Mem), p ++ q = s.2.2.2 → (∀ r c : Nat, r < 8 → c < 8 → gM μ' r c = grP s p.length r c) → (∀ q : Nat, q ≠ 212 → μ' q = μ q) →
    E G mX11_findTwos (Zq G mX11_findTwos Q) 0 0 44 [.ref 203, vi i, vi (s.2.2.2.length : Int), vi ((s.2.2.2.length : Int) + 2), vi (p.length : Int)] [] (Hp μ') := by
  have hb := hok.2.2.2.2.2.1
  intro q
  induction q with
  | nil =>
    intro p μ' h1 h2 h3
    have hl : p.length = s.2.2.2.length := by rw [← h1]; simp
    refine E_iload dX11_findTwos_44 rfl ?_
    refine E_iload_n dX11_findTwos_46 rfl ?_
    refine E_icmp_ge 116 dX11_findTwos_47 (fun h47 => ?_) (fun h47 => ?_)
    · -- 116
      exact hk μ' _ (fun r c hr hc => by rw [h2 r c hr hc, hl]) h3
    · -- 50
      exfalso; omega
  | cons x q ih =>
    intro p μ' h1 h2 h3
    have hl : p.length + 1 + q.length = s.2.2.2.length := by rw [← h1]; simp; omega
    have hx : s.2.2.2[p.length]? = some x := by rw [← h1]; simp
    obtain ⟨x1, x2, x3, x4, -⟩ := hok.2.2.2.2.2.2 x (List.mem_of_getElem? hx)
    have hs' := hs.kept (h3 204 (by decide))
    have hat : fibAt s (((p.length + 1 : Nat) : Int) - 1) = x := by
      unfold fibAt
      rw [show (((p.length + 1 : Nat) : Int) - 1).toNat = p.length by omega, ← h1]; simp
    have t := fun μ2 a b => ih (p ++ [x]) μ2 (by rw [← h1]; simp) a b
    rw [show ((p ++ [x]).length : Int) = (p.length : Int) + 1 by simp, show (p ++ [x]).length = p.length + 1 by simp] at t
    refine E_iload dX11_findTwos_44 rfl ?_
    refine E_iload_n dX11_findTwos_46 rfl ?_
    refine E_icmp_ge 116 dX11_findTwos_47 (fun h47 => ?_) (fun h47 => ?_)
    · -- 116
      exfalso; omega
    · -- 50
      refine E_aload_n dX11_findTwos_50 rfl ?_
      refine GX11_36 sk_203 dX11_findTwos_51 ?_
      refine E_bipush dX11_findTwos_54 ?_
      refine E_iload dX11_findTwos_56 rfl ?_
      refine E_iconst dX11_findTwos_58 ?_
      refine E_iadd dX11_findTwos_59 ?_
      refine E_imul dX11_findTwos_60 ?_
      refine E_aload_n dX11_findTwos_61 rfl ?_
      refine E_iload_n dX11_findTwos_62 rfl ?_
      refine E_iload dX11_findTwos_63 rfl ?_
      refine E_callVR dX11_findTwos_65 lkX11_93 (Hp_get sk_203) (m_b hi hs' (by omega) hx) ?_
      refine H_iast sk_212 dX11_findTwos_68 ?_
      refine E_aload_n dX11_findTwos_69 rfl ?_
      refine GX11_36 sk_203 dX11_findTwos_70 ?_
      refine E_bipush dX11_findTwos_73 ?_
      refine E_iload dX11_findTwos_75 rfl ?_
      refine E_iconst dX11_findTwos_77 ?_
      refine E_iadd dX11_findTwos_78 ?_
      refine E_imul dX11_findTwos_79 ?_
      refine E_iload dX11_findTwos_80 rfl ?_
      refine E_iadd dX11_findTwos_82 ?_
      refine E_iconst dX11_findTwos_83 ?_
      refine E_iadd dX11_findTwos_84 ?_
      refine E_aload_n dX11_findTwos_85 rfl ?_
      refine E_iload_n dX11_findTwos_86 rfl ?_
      refine E_iload dX11_findTwos_87 rfl ?_
      refine E_callVR dX11_findTwos_89 lkX11_90 (Hp_get sk_203) (m_a hi (hs'.kept (up_ne 204 (by decide))) (by omega) hx) ?_
      refine H_iast sk_212 dX11_findTwos_92 ?_
      refine E_aload_n dX11_findTwos_93 rfl ?_
      refine GX11_36 sk_203 dX11_findTwos_94 ?_
      refine E_bipush dX11_findTwos_97 ?_
      refine E_iload_n dX11_findTwos_99 rfl ?_
      refine E_iconst dX11_findTwos_100 ?_
      refine E_isub dX11_findTwos_101 ?_
      refine E_imul dX11_findTwos_102 ?_
      refine E_iload dX11_findTwos_103 rfl ?_
      refine E_iadd dX11_findTwos_105 ?_
      refine E_iconst dX11_findTwos_106 ?_
      refine E_iadd dX11_findTwos_107 ?_
      refine E_iconst dX11_findTwos_108 ?_
      refine H_iast sk_212 dX11_findTwos_109 ?_
      refine E_iinc dX11_findTwos_110 rfl ?_
      refine E_goto 44 dX11_findTwos_113 ?_
      refine t _ (fun r c hr hc => ?_) (fun q hq => by rw [up_ne q hq, up_ne q hq, up_ne q hq]; exact h3 q hq)
      have h4 := h2 r c hr hc
      unfold gM at h4 ⊢
      rw [up_r, up_r, up_r, h4]
      unfold grP
      by_cases e1 : r = p.length + 1
      · subst e1
        rw [if_neg (show ¬ (8 * ((p.length + 1 : Nat) : Int) + (c : Int) = _) by omega), if_neg (show ¬ (p.length + 1 ≤ p.length ∨ _) by omega), if_pos (show p.length + 1 ≤ p.length + 1 ∨ _ from Or.inl (Nat.le_refl _))]
        have gd : grd s (p.length + 1) c = if c = 0 then x.2 else if c = p.length + 1 then x.1 else 0 := by
          unfold grd
          rw [if_neg (show ¬ p.length + 1 = 0 by omega), if_neg (show ¬ p.length + 1 = s.2.2.2.length + 1 by omega), if_pos (show p.length + 1 ≤ s.2.2.2.length by omega), hat]
        rw [gd]
        by_cases e2 : c = 0
        · subst e2; rw [if_neg (by omega), if_pos (by omega), if_pos rfl]
        · by_cases e3 : c = p.length + 1
          · subst e3; rw [if_pos (by omega), if_neg (by omega), if_pos rfl]
          · rw [if_neg (by omega), if_neg (by omega), if_neg (by omega), if_neg e3]
      · by_cases e2 : r = s.2.2.2.length + 1 ∧ c = p.length + 1
        · obtain ⟨rfl, rfl⟩ := e2
          rw [if_pos (by omega), if_pos (by omega)]
          unfold grd
          rw [if_neg (by omega), if_pos rfl, if_neg (by omega), if_neg (by omega), if_pos (by omega)]
        · rw [if_neg (by omega), if_neg (by omega), if_neg (by omega)]
          by_cases e3 : r ≤ p.length ∨ (r = s.2.2.2.length + 1 ∧ 1 ≤ c ∧ c ≤ p.length)
          · rw [if_pos e3, if_pos (by omega)]
          · rw [if_neg e3, if_neg (by omega)]
theorem grd_rng {s : Sp} (hok : spOk s) {r c : Nat} : 0 ≤ grd s r c ∧ grd s r c < 256 := by
  unfold grd
  have hf : ∀ k : Int, 0 ≤ (fibAt s k).1 ∧ (fibAt s k).1 < 256 ∧ 0 ≤ (fibAt s k).2 ∧ (fibAt s k).2 < 256 := fun k => by
    unfold fibAt
    rw [List.getD_eq_getElem?_getD]
    cases h : s.2.2.2[k.toNat]? with
    | none => simp
    | some x =>
      obtain ⟨x1, x2, x3, x4, -⟩ := hok.2.2.2.2.2.2 x (List.mem_of_getElem? h)
      simp only [Option.getD_some]; omega
  have h1 := hf ((r : Int) - 1)
  have h2 := Int.emod_nonneg (-s.2.2.1) (show (256 : Int) ≠ 0 by decide)
  have h3 := Int.emod_lt_of_pos (-s.2.2.1) (show (0 : Int) < 256 by decide)
  repeat' split
  all_goals omega
theorem cnt_end {m s : Nat} {A : Nat → Nat → Int} : cntS m s s A = 1 := by
  unfold cntS
  have : rgN s s = [] := by unfold rgN; simp
  rw [this]
  show cif _ _ _ = _
  exact cif_pos (fun r h1 h2 => by omega)
theorem sMin_snoc {e u : Nat} : ∀ t : List Nat, sMin e (t ++ [u]) = sMin e t + min u e
  | [] => by simp [sMin]
  | x :: t => by simp only [List.cons_append, sMin, sMin_snoc t]; omega
def TwoQ (s : Sp) (t : List Nat) : Prop := t.length = s.2.2.2.length + 2 ∧ t.Pairwise (fun a b => a ≤ b) ∧ (∀ x ∈ t, x ≤ 8) ∧ ∀ e ≤ 8, cntS (2 ^ e) 0 (s.2.2.2.length + 2) (grd s) = ((2 ^ sMin e t : Nat) : Int)
def OffG (μ μ' : Mem) : Prop := ∀ q : Nat, q ≠ 212 → q ≠ 213 → μ' q = μ q
theorem ft_loop {i : Int} {s : Sp} (hok : spOk s) : ∀ (d k : Nat) (t : List Nat) (μ' : Mem), k + d = s.2.2.2.length + 2 → t.length = k → t.Pairwise (fun a b => a ≤ b) → (∀ x ∈ t, x ≤ 8) → RepV μ' 213 (cst t) → GR μ' → OffG μ μ' → (∀ e ≤ 8, cntS (2 ^ e) 0 (s.2.2.2.length + 2) (grd s) = (2 ^ sMin e t : Nat) * cntS (2 ^ e) k (s.2.2.2.length + 2) (gM μ')) → (∀ x ∈ t, ∀ r c : Nat, k ≤ r → r < s.2.2.2.length + 2 → k ≤ c → c < s.2.2.2.length + 2 → ((2 ^ x : Nat) : Int) ∣ gM μ' r c) →
    E G mX11_findTwos (Zq G mX11_findTwos (V0 (fun μ' => OffG μ μ' ∧ ∃ t, TwoQ s t ∧ RepV μ' 213 (cst t)))) 0 0 164 [.ref 203, vi i, vi (s.2.2.2.length : Int), vi ((s.2.2.2.length : Int) + 2), vi (k : Int)] [] (Hp μ')
  | 0, k, t, μ', e, hl, hs, h8, hR, hG, hO, hc, hd => by
    have hb := hok.2.2.2.2.2.1
    have : k = s.2.2.2.length + 2 := by omega
    subst this
    refine E_iload dX11_findTwos_164 rfl ?_
    refine E_iload_n dX11_findTwos_166 rfl ?_
    refine E_icmp_ge 190 dX11_findTwos_167 (fun h167 => ?_) (fun h167 => ?_)
    · -- 190
      refine E_vret dX11_findTwos_190 ?_
      exact ⟨rfl, _, rfl, hO, t, ⟨hl, hs, h8, fun e he => by rw [hc e he, cnt_end, Int.mul_one]⟩, hR⟩
    · -- 170
      exfalso; omega
  | d + 1, k, t, μ', e, hl, hs, h8, hR, hG, hO, hc, hd => by
    have hb := hok.2.2.2.2.2.1
    have ih := ft_loop (i := i) (s := s) hok d (k + 1)
    rw [show ((k + 1 : Nat) : Int) = (k : Int) + 1 by omega] at ih
    have hcl := m_clears (G := G) (μ := μ') (k := k) (s := s.2.2.2.length + 2) (by omega) (by omega) hG
    rw [show (((s.2.2.2.length + 2 : Nat)) : Int) = (s.2.2.2.length : Int) + 2 by omega] at hcl
    refine E_iload dX11_findTwos_164 rfl ?_
    refine E_iload_n dX11_findTwos_166 rfl ?_
    refine E_icmp_ge 190 dX11_findTwos_167 (fun h167 => ?_) (fun h167 => ?_)
    · -- 190
      exfalso; omega
    · -- 170
      refine E_aload_n dX11_findTwos_170 rfl ?_
      refine GX11_39 sk_203 dX11_findTwos_171 ?_
      refine E_iload dX11_findTwos_174 rfl ?_
      refine E_aload_n dX11_findTwos_176 rfl ?_
      refine E_iload dX11_findTwos_177 rfl ?_
      refine E_iload_n dX11_findTwos_179 rfl ?_
      refine E_callVP dX11_findTwos_180 lkX11_217 (Hp_get sk_203) (hcl) ?_
      rintro v M' ⟨u, rfl, μ2, rfl, g1, g2, g3, g4, g5, g6⟩
      show E G mX11_findTwos _ 0 0 183 _ (vi (u : Int) :: vi (k : Int) :: .ref 213 :: []) (Hp μ2)
      refine H_iast sk_213 dX11_findTwos_183 ?_
      refine E_iinc dX11_findTwos_184 rfl ?_
      refine E_goto 164 dX11_findTwos_187 ?_
      have hx : ∀ x ∈ t, x ≤ u := fun x hx => g6 x (h8 x hx) (hd x hx)
      have egm : gM (up μ2 213 (k : Int) (u : Int)) = gM μ2 := by funext r c; unfold gM; rw [up_ne 212 (by decide)]
      refine ih (t ++ [u]) _ (by omega) (by simp [hl]) ?_ ?_ ?_ (fun r c hr hc => by rw [egm]; exact g1 r c hr hc) (fun q q1 q2 => by rw [up_ne q q2, g2 q q1, hO q q1 q2]) (fun e he => ?_) (fun x hx2 r c h1 h2 h3 h4 => ?_)
      · refine List.pairwise_append.mpr ⟨hs, by simp, fun a ha b hb => ?_⟩
        simp at hb; rw [hb]; exact hx a ha
      · intro x hx2
        rcases List.mem_append.mp hx2 with h | h
        · exact h8 x h
        · simp at h; rw [h]; exact g3
      · have := (hR.kept (g2 213 (by decide))).push (u : Int)
        have e1 : ((cst t).length : Int) = (k : Int) := by simp [cst, hl]
        rw [e1] at this
        have e2 : cst (t ++ [u]) = cst t ++ [(u : Int)] := by unfold cst; rw [List.map_append]; rfl
        rw [e2]
        exact this
      · rw [egm, hc e he, g4 e he, sMin_snoc, Nat.pow_add, Int.natCast_mul, Int.mul_assoc]
      · rw [egm]
        have h5 := g5 r c (by omega) h2 (by omega) h4
        rcases List.mem_append.mp hx2 with h | h
        · exact Int.dvd_trans (Int.natCast_dvd_natCast.mpr (Nat.pow_dvd_pow 2 (hx x h))) h5
        · simp at h; rw [h]; exact h5
theorem m_findTwos {i : Int} {s : Sp} (hi : isS i) (hs : RepN μ 204 (16 * i) s) (hok : spOk s) : Ctr G mX11_findTwos [.ref 203, vi i] (Hp μ) (V0 (fun μ' => OffG μ μ' ∧ ∃ t, TwoQ s t ∧ RepV μ' 213 (cst t))) := by
  refine Ctr.of ?_
  have j1 := hi.1
  have j2 := hi.2
  obtain ⟨o0, o1, o2, o3, o4, o5, o6⟩ := id hok
  have tail : ∀ (μ1 : Mem) (w : Value), (∀ r c : Nat, r < 8 → c < 8 → gM μ1 r c = grP s s.2.2.2.length r c) → (∀ q : Nat, q ≠ 212 → μ1 q = μ q) → E G mX11_findTwos (Zq G mX11_findTwos (V0 (fun μ' => OffG μ μ' ∧ ∃ t, TwoQ s t ∧ RepV μ' 213 (cst t)))) 0 0 116 [.ref 203, vi i, vi (s.2.2.2.length : Int), vi ((s.2.2.2.length : Int) + 2), w] [] (Hp μ1) := by
    intro μ1 w h1 h2
    have hs1 := hs.kept (h2 204 (by decide))
    have hgm : ∀ r c : Nat, r < 8 → c < 8 → gM (up (up μ1 212 (8 * ((s.2.2.2.length : Int) + 2 - 1)) ((-s.2.2.1) % 256)) 212 (8 * ((s.2.2.2.length : Int) + 2 - 1) + ((s.2.2.2.length : Int) + 2) - 1) 2) r c = grd s r c := fun r c hr hc => by
      have h4 := h1 r c hr hc
      unfold gM at h4 ⊢
      rw [up_r, up_r, h4]
      unfold grP
      by_cases e1 : r = s.2.2.2.length + 1 ∧ c = s.2.2.2.length + 1
      · obtain ⟨rfl, rfl⟩ := e1
        rw [if_pos (by omega)]
        unfold grd
        rw [if_neg (by omega), if_pos rfl, if_neg (by omega), if_pos rfl]
      · by_cases e2 : r = s.2.2.2.length + 1 ∧ c = 0
        · obtain ⟨rfl, rfl⟩ := e2
          rw [if_neg (by omega), if_pos (by omega)]
          unfold grd
          rw [if_neg (by omega), if_pos rfl, if_pos rfl]
        · rw [if_neg (by omega), if_neg (by omega)]
          by_cases e3 : r ≤ s.2.2.2.length ∨ (r = s.2.2.2.length + 1 ∧ 1 ≤ c ∧ c ≤ s.2.2.2.length)
          · rw [if_pos e3]
          · rw [if_neg e3]
            unfold grd
            by_cases e4 : r = s.2.2.2.length + 1
            · rw [if_neg (by omega), if_pos e4, if_neg (by omega), if_neg (by omega), if_neg (by omega)]
            · rw [if_neg (by omega), if_neg e4, if_neg (by omega)]
    have fr : ∀ q : Nat, q ≠ 212 → (up (up μ1 212 (8 * ((s.2.2.2.length : Int) + 2 - 1)) ((-s.2.2.1) % 256)) 212 (8 * ((s.2.2.2.length : Int) + 2 - 1) + ((s.2.2.2.length : Int) + 2) - 1) 2) q = μ q := fun q hq => by rw [up_ne q hq, up_ne q hq]; exact h2 q hq
    refine E_aload_n dX11_findTwos_116 rfl ?_
    refine GX11_36 sk_203 dX11_findTwos_117 ?_
    refine E_bipush dX11_findTwos_120 ?_
    refine E_iload_n dX11_findTwos_122 rfl ?_
    refine E_iconst dX11_findTwos_123 ?_
    refine E_isub dX11_findTwos_124 ?_
    refine E_imul dX11_findTwos_125 ?_
    refine E_aload_n dX11_findTwos_126 rfl ?_
    refine GX11_7 sk_203 dX11_findTwos_127 ?_
    refine E_bipush dX11_findTwos_130 ?_
    refine E_iload_n dX11_findTwos_132 rfl ?_
    refine E_imul dX11_findTwos_133 ?_
    refine E_iconst dX11_findTwos_134 ?_
    refine E_iadd dX11_findTwos_135 ?_
    refine H_iald sk_204 dX11_findTwos_136 ?_
    rw [hs1.2.2.1]
    refine E_ineg dX11_findTwos_137 ?_
    refine E_sipush dX11_findTwos_138 ?_
    refine E_callSR dX11_findTwos_141 lkX11_79 (m_left (x := -s.2.2.1) (z := 256) (by omega) (by omega)) ?_
    refine H_iast sk_212 dX11_findTwos_144 ?_
    refine E_aload_n dX11_findTwos_145 rfl ?_
    refine GX11_36 sk_203 dX11_findTwos_146 ?_
    refine E_bipush dX11_findTwos_149 ?_
    refine E_iload_n dX11_findTwos_151 rfl ?_
    refine E_iconst dX11_findTwos_152 ?_
    refine E_isub dX11_findTwos_153 ?_
    refine E_imul dX11_findTwos_154 ?_
    refine E_iload_n dX11_findTwos_155 rfl ?_
    refine E_iadd dX11_findTwos_156 ?_
    refine E_iconst dX11_findTwos_157 ?_
    refine E_isub dX11_findTwos_158 ?_
    refine E_iconst dX11_findTwos_159 ?_
    refine H_iast sk_212 dX11_findTwos_160 ?_
    refine E_iconst dX11_findTwos_161 ?_
    refine E_istore dX11_findTwos_162 ?_
    refine ft_loop (μ := μ) hok (s.2.2.2.length + 2) 0 [] _ (by omega) rfl List.Pairwise.nil (fun x hx => by simp at hx) (fun k x hx => by simp [cst] at hx) (fun r c hr hc => by rw [hgm r c hr hc]; exact grd_rng hok) (fun q q1 _ => fr q q1) (fun e he => ?_) (fun x hx => by simp at hx)
    have hcc : cntS (2 ^ e) 0 (s.2.2.2.length + 2) (grd s) = cntS (2 ^ e) 0 (s.2.2.2.length + 2) (gM (up (up μ1 212 (8 * ((s.2.2.2.length : Int) + 2 - 1)) ((-s.2.2.1) % 256)) 212 (8 * ((s.2.2.2.length : Int) + 2 - 1) + ((s.2.2.2.length : Int) + 2) - 1) 2)) := cnt_iff (fun x => by
      have el : ∀ r, r < s.2.2.2.length + 2 → lin (rgN 0 (s.2.2.2.length + 2)) (grd s r) x = lin (rgN 0 (s.2.2.2.length + 2)) (gM (up (up μ1 212 (8 * ((s.2.2.2.length : Int) + 2 - 1)) ((-s.2.2.1) % 256)) 212 (8 * ((s.2.2.2.length : Int) + 2 - 1) + ((s.2.2.2.length : Int) + 2) - 1) 2) r) x := fun r hr => lin_congr _ (fun c hc => ⟨by
        have := rgN_mem.mp hc
        rw [hgm r c (by omega) (by omega)], rfl⟩)
      exact ⟨fun h r h1 h2 => by rw [← el r h2]; exact h r h1 h2, fun h r h1 h2 => by rw [el r h2]; exact h r h1 h2⟩)
    rw [hcc]
    show _ = ((2 ^ 0 : Nat) : Int) * _
    rw [Nat.pow_zero, Int.natCast_one, Int.one_mul]
  refine E_aload_n dX11_findTwos_0 rfl ?_
  refine E_iload_n dX11_findTwos_1 rfl ?_
  refine E_callVR dX11_findTwos_2 lkX11_100 (Hp_get sk_203) (m_fibres hi hs) ?_
  refine E_istore_n dX11_findTwos_5 ?_
  refine E_iload_n dX11_findTwos_6 rfl ?_
  refine E_iconst dX11_findTwos_7 ?_
  refine E_iadd dX11_findTwos_8 ?_
  refine E_istore_n dX11_findTwos_9 ?_
  refine E_iconst dX11_findTwos_10 ?_
  refine E_istore dX11_findTwos_11 ?_
  refine ft_zero (μ := μ) (fun μ1 w g1 g2 => ?_) 64 0 μ (by omega) (fun j j0 j1 => by omega) (fun _ _ => rfl)
  refine E_aload_n dX11_findTwos_34 rfl (GX11_36 sk_203 dX11_findTwos_35 (E_iconst dX11_findTwos_38 (E_iconst dX11_findTwos_39 (H_iast sk_212 dX11_findTwos_40 ?_))))
  refine E_iconst dX11_findTwos_41 (E_istore dX11_findTwos_42 ?_)
  refine ft_fib (μ := μ) hi hs hok tail s.2.2.2 [] _ rfl (fun r c hr hc => ?_) (fun q hq => by rw [up_ne q hq]; exact g2 q hq)
  unfold gM grP
  rw [up_r]
  by_cases e1 : r = 0
  · subst e1
    rw [if_pos (Or.inl (Nat.zero_le _))]
    unfold grd
    rw [if_pos rfl]
    by_cases e2 : c = 0
    · rw [if_pos (by omega), if_pos e2]
    · rw [if_neg (by omega), if_neg e2, g1 _ (by omega) (by omega)]
  · rw [if_neg (by omega), g1 _ (by omega) (by omega), if_neg]
    simp only [List.length_nil]; omega
end MFINDTWOS
