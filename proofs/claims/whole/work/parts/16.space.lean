/-! FibredSpaces$Space -/
section SPACE
variable {G : GT} {μ : Mem} {r f : Nat}
theorem c_start {a b c : Int} (hr : isSp r) : Ctr G mX8_start [.ref r, vi a, vi b, vi c] (Hp μ) (V0 (fun μ' => RepD μ' r (a, b, c, []) ∧ Off r 3 μ μ')) := by
  refine Ctr.of ?_
  refine E_aload_n dX8_start_0 rfl ?_
  refine E_iload_n dX8_start_1 rfl ?_
  refine PX8_18 hr.1 dX8_start_2 ?_
  refine E_aload_n dX8_start_5 rfl ?_
  refine E_iload_n dX8_start_6 rfl ?_
  refine PX8_22 hr.1 dX8_start_7 ?_
  refine E_aload_n dX8_start_10 rfl ?_
  refine E_iload_n dX8_start_11 rfl ?_
  refine PX8_25 hr.1 dX8_start_12 ?_
  refine E_aload_n dX8_start_15 rfl ?_
  refine E_iconst dX8_start_16 ?_
  refine PX8_28 hr.1 dX8_start_17 ?_
  refine E_aload_n dX8_start_20 rfl ?_
  refine E_iconst dX8_start_21 ?_
  refine PX8_31 hr.1 dX8_start_22 (by first | exact Or.inl rfl | exact Or.inr rfl | omega) ?_
  refine E_vret dX8_start_25 ?_
  refine ⟨rfl, _, rfl, ?_, ?_⟩
  · refine ⟨by simp [up], by simp [up], by simp [up], fun _ => ⟨by simp [up], by simp [up], fun k x hx => by simp at hx⟩, fun q => absurd q (by simp)⟩
  · exact ((((Off.rf.up (by omega) (by omega)).up (by omega) (by omega)).up (by omega) (by omega)).up (by omega) (by omega)).up (by omega) (by omega)
theorem copy_loop (hr : isSp r) (hf : isSp f) (hd : f + 3 ≤ r ∨ r + 3 ≤ f) (ρ : Int → Int) : ∀ (t : Nat) (k : Int) (μ' : Mem), 0 ≤ k → k + t = 6 → μ' r = ρ → (∀ j : Int, 0 ≤ j → j < k → μ' (r + 1) j = μ (f + 1) j ∧ μ' (r + 2) j = μ (f + 2) j) → Off r 3 μ μ' →
    E G mX8_copy (Zq G mX8_copy (V0 (fun μ' => μ' r = ρ ∧ (∀ j : Int, 0 ≤ j → j < 6 → μ' (r + 1) j = μ (f + 1) j ∧ μ' (r + 2) j = μ (f + 2) j) ∧ Off r 3 μ μ'))) 0 0 34 [.ref r, .ref f, vi k] [] (Hp μ') := by
  intro t
  induction t with
  | zero =>
    intro k μ' h0 h1 h2 h3 h4
    refine E_iload_n dX8_copy_34 rfl ?_
    refine E_bipush dX8_copy_35 ?_
    refine E_icmp_ge 70 dX8_copy_37 (fun h37 => ?_) (fun h37 => ?_)
    · -- 70
      refine E_vret dX8_copy_70 ?_
      exact ⟨rfl, _, rfl, h2, fun j h5 h6 => h3 j h5 (by omega), h4⟩
    · -- 40
      omega
  | succ t ih =>
    intro k μ' h0 h1 h2 h3 h4
    have e1 : μ' (f + 1) = μ (f + 1) := h4 _ (by omega)
    have e2 : μ' (f + 2) = μ (f + 2) := h4 _ (by omega)
    refine E_iload_n dX8_copy_34 rfl ?_
    refine E_bipush dX8_copy_35 ?_
    refine E_icmp_ge 70 dX8_copy_37 (fun h37 => ?_) (fun h37 => ?_)
    · -- 70
      omega
    · -- 40
      refine E_aload_n dX8_copy_40 rfl ?_
      refine GX8_9 hr.1 dX8_copy_41 ?_
      refine E_iload_n dX8_copy_44 rfl ?_
      refine E_aload_n dX8_copy_45 rfl ?_
      refine GX8_9 hf.1 dX8_copy_46 ?_
      refine E_iload_n dX8_copy_49 rfl ?_
      refine H_iald hf.2.1 dX8_copy_50 ?_
      refine H_iast hr.2.1 dX8_copy_51 ?_
      refine E_aload_n dX8_copy_52 rfl ?_
      refine GX8_15 hr.1 dX8_copy_53 ?_
      refine E_iload_n dX8_copy_56 rfl ?_
      refine E_aload_n dX8_copy_57 rfl ?_
      refine GX8_15 hf.1 dX8_copy_58 ?_
      refine E_iload_n dX8_copy_61 rfl ?_
      refine H_iald hf.2.2 dX8_copy_62 ?_
      refine H_iast hr.2.2 dX8_copy_63 ?_
      refine E_iinc dX8_copy_64 rfl ?_
      refine E_goto 34 dX8_copy_67 ?_
      refine ih (k + 1) _ (by omega) (by omega) ?_ ?_ ((h4.up (by omega) (by omega)).up (by omega) (by omega))
      · rw [up_ne r (by omega), up_ne r (by omega)]; exact h2
      · intro j h5 h6
        simp only [up]
        rw [if_neg (by omega)]
        by_cases hj : j = k
        · subst hj
          rw [if_pos (by simp), if_pos (by simp), if_neg (by omega), e1, e2]; exact ⟨rfl, rfl⟩
        · rw [if_neg (by omega), if_neg (by omega), if_neg (by omega)]; exact h3 j h5 (by omega)
theorem c_copy {s : Sp} (hr : isSp r) (hf : isSp f) (hd : f + 3 ≤ r ∨ r + 3 ≤ f) (hs : RepS μ f s) (hl : s.2.2.2.length ≤ 6) : Ctr G mX8_copy [.ref r, .ref f] (Hp μ) (V0 (fun μ' => RepS μ' r s ∧ Off r 3 μ μ')) := by
  refine Ctr.of ?_
  obtain ⟨a1, a2, a3, a4, a5, a6⟩ := hs
  refine E_aload_n dX8_copy_0 rfl ?_
  refine E_aload_n dX8_copy_1 rfl ?_
  refine GX8_18 hf.1 dX8_copy_2 ?_
  refine E_aload_n dX8_copy_5 rfl ?_
  refine GX8_22 hf.1 dX8_copy_6 ?_
  refine E_aload_n dX8_copy_9 rfl ?_
  refine GX8_25 hf.1 dX8_copy_10 ?_
  refine E_callVV dX8_copy_13 lkX8_35 (Hp_get hr.1) (c_start hr) ?_
  rintro μ1 ⟨⟨b1, b2, b3, b4, -⟩, ho⟩
  have e0 : μ1 f = μ f := ho f (by omega)
  refine E_aload_n dX8_copy_16 rfl ?_
  refine E_aload_n dX8_copy_17 rfl ?_
  refine GX8_28 hf.1 dX8_copy_18 ?_
  refine PX8_28 hr.1 dX8_copy_21 ?_
  refine E_aload_n dX8_copy_24 rfl ?_
  refine E_aload_n dX8_copy_25 rfl ?_
  refine GX8_31 hf.1 dX8_copy_26 ?_
  rw [show up μ1 r 3 (μ1 f 3) f 4 = 0 by rw [up_ne f (by omega), e0]; exact a5]
  refine PX8_31 hr.1 dX8_copy_29 (by first | exact Or.inl rfl | exact Or.inr rfl | omega) ?_
  refine E_iconst dX8_copy_32 ?_
  refine E_istore_n dX8_copy_33 ?_
  refine E_mono ?_ (copy_loop (μ := μ) hr hf hd _ 6 0 _ (by omega) (by omega) rfl (fun j h1 h2 => by omega) ((ho.up (by omega) (by omega)).up (by omega) (by omega)))
  rintro v M ⟨hv, μ', hM, h1, h2, h3⟩
  refine ⟨hv, μ', hM, ⟨?_, ?_, ?_, ?_, ?_, ?_⟩, h3⟩
  · rw [h1]; simp [up]; rw [b1]; exact a1
  · rw [h1]; simp [up]; rw [b2]; exact a2
  · rw [h1]; simp [up]; rw [b3]; exact a3
  · rw [h1]; simp [up]; rw [e0]; exact a4
  · rw [h1]; simp [up]
  · intro k x hx
    have hk : k < s.2.2.2.length := (List.getElem?_eq_some_iff.mp hx).1
    have := h2 k (by omega) (by omega)
    rw [this.1, this.2]
    exact a6 k x hx
theorem c_fits {d : Sp} (hr : isSp r) (hd : RepD μ r d) (h1 : -2147483648 < d.2.2.1 ∧ d.2.2.1 < 2147483648) (h2 : 0 ≤ d.2.1 ∧ d.2.1 < 1000) : Ctr G mX8_fits [.ref r] (Hp μ) (R1 (vi (if d.2.2.2.length ≤ 6 ∧ d.2.1 ≤ 4 ∧ -999 ≤ d.2.2.1 ∧ d.2.2.1 ≤ 999 then 1 else 0)) (Hp μ)) := by
  refine Ctr.of ?_
  obtain ⟨a1, a2, a3, a4, a5⟩ := hd
  have h4 : (d.2.2.2.length ≤ 6 ∧ μ r 4 = 0) ∨ (6 < d.2.2.2.length ∧ μ r 4 = 1) := by
    rcases Nat.lt_or_ge 6 d.2.2.2.length with h | h
    · exact Or.inr ⟨h, (a5 h).2⟩
    · exact Or.inl ⟨h, (a4 h).2.1⟩
  rw [← a2] at h2
  rw [← a3] at h1
  rw [← a2, ← a3]
  refine E_aload_n dX8_fits_0 rfl ?_
  refine GX8_31 hr.1 dX8_fits_1 ?_
  refine E_if_ne 32 dX8_fits_4 (fun h4 => ?_) (fun h4 => ?_)
  · -- 32
    refine E_iconst dX8_fits_32 ?_
    refine E_zret dX8_fits_33 ?_ (by first | exact Or.inl rfl | exact Or.inr rfl | omega)
    refine ⟨?_, rfl⟩
    first | rw [if_pos (by omega)] | rw [if_neg (by omega)]
  · -- 7
    refine E_aload_n dX8_fits_7 rfl ?_
    refine GX8_22 hr.1 dX8_fits_8 ?_
    refine E_iconst dX8_fits_11 ?_
    refine E_icmp_gt 32 dX8_fits_12 (fun h12 => ?_) (fun h12 => ?_)
    · -- 32
      refine E_iconst dX8_fits_32 ?_
      refine E_zret dX8_fits_33 ?_ (by first | exact Or.inl rfl | exact Or.inr rfl | omega)
      refine ⟨?_, rfl⟩
      first | rw [if_pos (by omega)] | rw [if_neg (by omega)]
    · -- 15
      refine E_aload_n dX8_fits_15 rfl ?_
      refine GX8_25 hr.1 dX8_fits_16 ?_
      refine E_callSR dX8_fits_19 lkX8_39 (c_absi (x := μ r 2) (by omega)) ?_
      refine E_sipush dX8_fits_22 ?_
      refine E_icmp_gt 32 dX8_fits_25 (fun h25 => ?_) (fun h25 => ?_)
      · -- 32
        refine E_iconst dX8_fits_32 ?_
        refine E_zret dX8_fits_33 ?_ (by first | exact Or.inl rfl | exact Or.inr rfl | omega)
        refine ⟨?_, rfl⟩
        first | rw [if_pos (by omega)] | rw [if_neg (by omega)]
      · -- 28
        refine E_iconst dX8_fits_28 ?_
        refine E_goto 33 dX8_fits_29 ?_
        refine E_zret dX8_fits_33 ?_ (by first | exact Or.inl rfl | exact Or.inr rfl | omega)
        refine ⟨?_, rfl⟩
        first | rw [if_pos (by omega)] | rw [if_neg (by omega)]
theorem ins_loop {x : Fib} {l : List Fib} (hr : isSp r) (hx : smF x) (hl : ∀ y ∈ l, smF y) (hn : l.length < 6) : ∀ (n : Nat) (p q : List Fib) (μ' : Mem), p.length = n → p ++ q = l → (∀ y ∈ q, gtP y x = true) → InsI μ' (r + 1) (r + 2) p q → μ' r = μ r → Off r 3 μ μ' →
    E G mX8_insert (Zq G mX8_insert (V0 (fun μ' => RepL μ' (r + 1) (r + 2) (ins x l) ∧ μ' r = up μ r 3 (μ r 3 + 1) r ∧ Off r 3 μ μ'))) 0 0 20 [.ref r, vi x.1, vi x.2, vi (p.length : Int)] [] (Hp μ') := by
  intro n
  induction n with
  | zero =>
    intro p q μ' h1 h2 h3 h4 h5 h6
    obtain rfl : p = [] := List.length_eq_zero_iff.mp h1
    have hd := ins_end (by omega) h4 h3 (fun y t e => by simp at e) h2
    refine E_iload_n dX8_insert_20 rfl ?_
    refine E_if_le 94 dX8_insert_21 (fun h21 => ?_) (fun h21 => ?_)
    · -- 94
      refine E_aload_n dX8_insert_94 rfl ?_
      refine GX8_9 hr.1 dX8_insert_95 ?_
      refine E_iload_n dX8_insert_98 rfl ?_
      refine E_iload_n dX8_insert_99 rfl ?_
      refine H_iast hr.2.1 dX8_insert_100 ?_
      refine E_aload_n dX8_insert_101 rfl ?_
      refine GX8_15 hr.1 dX8_insert_102 ?_
      refine E_iload_n dX8_insert_105 rfl ?_
      refine E_iload_n dX8_insert_106 rfl ?_
      refine H_iast hr.2.2 dX8_insert_107 ?_
      refine E_aload_n dX8_insert_108 rfl ?_
      refine E_dup dX8_insert_109 ?_
      refine GX8_28 hr.1 dX8_insert_110 ?_
      refine E_iconst dX8_insert_113 ?_
      refine E_iadd dX8_insert_114 ?_
      rw [up_n2, up_n1, h5]
      refine PX8_28 hr.1 dX8_insert_115 ?_
      refine E_vret dX8_insert_118 ?_
      refine ⟨rfl, _, rfl, hd.kept up_01 up_02, ?_, ((h6.up (by omega) (by omega)).up (by omega) (by omega)).up (by omega) (by omega)⟩
      funext j; rw [up_r, up_r, up_n2, up_n1, h5]
    · -- 24
      exact absurd h21 (by simp)
  | succ n ih =>
    intro p q μ' h1 h2 h3 h4 h5 h6
    rcases list_end p with rfl | ⟨p, y, rfl⟩
    · simp at h1
    have hy := hl y (by rw [← h2]; simp)
    have hla := h4.last
    have hp1 : ((p ++ [y]).length : Int) = (p.length : Int) + 1 := by simp
    have hp2 : p.length + 1 < 6 := by
      have := congrArg List.length h2
      simp at this
      omega
    have hs : (p.length : Int) + 1 - 1 = p.length := by omega
    have hd : gtP y x = false → RepL (up (up μ' (r + 1) ((p.length : Int) + 1) x.1) (r + 2) ((p.length : Int) + 1) x.2) (r + 1) (r + 2) (ins x l) := fun hg => by
      rw [← hp1]
      refine ins_end (by omega) h4 h3 (fun z t e => ?_) h2
      have := List.append_inj' e rfl
      simp at this
      rw [← this.2]; exact hg
    have hsh := h4.shift (show r + 1 ≠ r + 2 by omega)
    obtain ⟨hx1, hx2, hx3, hx4⟩ := id hx
    obtain ⟨hy1, hy2, hy3, hy4⟩ := hy
    rw [hp1]
    refine E_iload_n dX8_insert_20 rfl ?_
    refine E_if_le 94 dX8_insert_21 (fun h21 => ?_) (fun h21 => ?_)
    · -- 94
      refine E_aload_n dX8_insert_94 rfl ?_
      refine GX8_9 hr.1 dX8_insert_95 ?_
      refine E_iload_n dX8_insert_98 rfl ?_
      refine E_iload_n dX8_insert_99 rfl ?_
      refine H_iast hr.2.1 dX8_insert_100 ?_
      refine E_aload_n dX8_insert_101 rfl ?_
      refine GX8_15 hr.1 dX8_insert_102 ?_
      refine E_iload_n dX8_insert_105 rfl ?_
      refine E_iload_n dX8_insert_106 rfl ?_
      refine H_iast hr.2.2 dX8_insert_107 ?_
      refine E_aload_n dX8_insert_108 rfl ?_
      refine E_dup dX8_insert_109 ?_
      refine GX8_28 hr.1 dX8_insert_110 ?_
      refine E_iconst dX8_insert_113 ?_
      refine E_iadd dX8_insert_114 ?_
      rw [up_n2, up_n1, h5]
      refine PX8_28 hr.1 dX8_insert_115 ?_
      refine E_vret dX8_insert_118 ?_
      first | (exfalso; omega) | (refine ⟨rfl, _, rfl, (hd (gtP_0 (by omega) (by omega))).kept up_01 up_02, ?_, ((h6.up (by omega) (by omega)).up (by omega) (by omega)).up (by omega) (by omega)⟩; funext j; rw [up_r, up_r, up_n2, up_n1, h5])
    · -- 24
      refine E_aload_n dX8_insert_24 rfl ?_
      refine GX8_9 hr.1 dX8_insert_25 ?_
      refine E_iload_n dX8_insert_28 rfl ?_
      refine E_iconst dX8_insert_29 ?_
      refine E_isub dX8_insert_30 ?_
      refine H_iald hr.2.1 dX8_insert_31 ?_
      rw [hs, hla.1]
      refine E_iload_n dX8_insert_32 rfl ?_
      refine E_icmp_gt 60 dX8_insert_33 (fun h33 => ?_) (fun h33 => ?_)
      · -- 60
        refine E_aload_n dX8_insert_60 rfl ?_
        refine GX8_9 hr.1 dX8_insert_61 ?_
        refine E_iload_n dX8_insert_64 rfl ?_
        refine E_aload_n dX8_insert_65 rfl ?_
        refine GX8_9 hr.1 dX8_insert_66 ?_
        refine E_iload_n dX8_insert_69 rfl ?_
        refine E_iconst dX8_insert_70 ?_
        refine E_isub dX8_insert_71 ?_
        refine H_iald hr.2.1 dX8_insert_72 ?_
        rw [hs, hla.1]
        refine H_iast hr.2.1 dX8_insert_73 ?_
        refine E_aload_n dX8_insert_74 rfl ?_
        refine GX8_15 hr.1 dX8_insert_75 ?_
        refine E_iload_n dX8_insert_78 rfl ?_
        refine E_aload_n dX8_insert_79 rfl ?_
        refine GX8_15 hr.1 dX8_insert_80 ?_
        refine E_iload_n dX8_insert_83 rfl ?_
        refine E_iconst dX8_insert_84 ?_
        refine E_isub dX8_insert_85 ?_
        refine H_iald hr.2.2 dX8_insert_86 ?_
        rw [hs, up_12, hla.2]
        refine H_iast hr.2.2 dX8_insert_87 ?_
        refine E_iinc dX8_insert_88 rfl ?_
        refine E_goto 20 dX8_insert_91 ?_
        rw [show (p.length : Int) + 1 + -1 = p.length by omega]
        refine ih p (y :: q) _ (by simp at h1; omega) (by rw [← h2]; simp) ?_ hsh (by rw [up_n2, up_n1]; exact h5) ((h6.up (by omega) (by omega)).up (by omega) (by omega))
        intro z hz
        rcases List.mem_cons.mp hz with rfl | hz
        · first | exact gtP_1 (by omega) | exact gtP_2 (by omega) (by omega)
        · exact h3 z hz
      · -- 36
        refine E_aload_n dX8_insert_36 rfl ?_
        refine GX8_9 hr.1 dX8_insert_37 ?_
        refine E_iload_n dX8_insert_40 rfl ?_
        refine E_iconst dX8_insert_41 ?_
        refine E_isub dX8_insert_42 ?_
        refine H_iald hr.2.1 dX8_insert_43 ?_
        rw [hs, hla.1]
        refine E_iload_n dX8_insert_44 rfl ?_
        refine E_icmp_ne 94 dX8_insert_45 (fun h45 => ?_) (fun h45 => ?_)
        · -- 94
          refine E_aload_n dX8_insert_94 rfl ?_
          refine GX8_9 hr.1 dX8_insert_95 ?_
          refine E_iload_n dX8_insert_98 rfl ?_
          refine E_iload_n dX8_insert_99 rfl ?_
          refine H_iast hr.2.1 dX8_insert_100 ?_
          refine E_aload_n dX8_insert_101 rfl ?_
          refine GX8_15 hr.1 dX8_insert_102 ?_
          refine E_iload_n dX8_insert_105 rfl ?_
          refine E_iload_n dX8_insert_106 rfl ?_
          refine H_iast hr.2.2 dX8_insert_107 ?_
          refine E_aload_n dX8_insert_108 rfl ?_
          refine E_dup dX8_insert_109 ?_
          refine GX8_28 hr.1 dX8_insert_110 ?_
          refine E_iconst dX8_insert_113 ?_
          refine E_iadd dX8_insert_114 ?_
          rw [up_n2, up_n1, h5]
          refine PX8_28 hr.1 dX8_insert_115 ?_
          refine E_vret dX8_insert_118 ?_
          first | (exfalso; omega) | (refine ⟨rfl, _, rfl, (hd (gtP_0 (by omega) (by omega))).kept up_01 up_02, ?_, ((h6.up (by omega) (by omega)).up (by omega) (by omega)).up (by omega) (by omega)⟩; funext j; rw [up_r, up_r, up_n2, up_n1, h5])
        · -- 48
          refine E_aload_n dX8_insert_48 rfl ?_
          refine GX8_15 hr.1 dX8_insert_49 ?_
          refine E_iload_n dX8_insert_52 rfl ?_
          refine E_iconst dX8_insert_53 ?_
          refine E_isub dX8_insert_54 ?_
          refine H_iald hr.2.2 dX8_insert_55 ?_
          rw [hs, hla.2]
          refine E_iload_n dX8_insert_56 rfl ?_
          refine E_icmp_le 94 dX8_insert_57 (fun h57 => ?_) (fun h57 => ?_)
          · -- 94
            refine E_aload_n dX8_insert_94 rfl ?_
            refine GX8_9 hr.1 dX8_insert_95 ?_
            refine E_iload_n dX8_insert_98 rfl ?_
            refine E_iload_n dX8_insert_99 rfl ?_
            refine H_iast hr.2.1 dX8_insert_100 ?_
            refine E_aload_n dX8_insert_101 rfl ?_
            refine GX8_15 hr.1 dX8_insert_102 ?_
            refine E_iload_n dX8_insert_105 rfl ?_
            refine E_iload_n dX8_insert_106 rfl ?_
            refine H_iast hr.2.2 dX8_insert_107 ?_
            refine E_aload_n dX8_insert_108 rfl ?_
            refine E_dup dX8_insert_109 ?_
            refine GX8_28 hr.1 dX8_insert_110 ?_
            refine E_iconst dX8_insert_113 ?_
            refine E_iadd dX8_insert_114 ?_
            rw [up_n2, up_n1, h5]
            refine PX8_28 hr.1 dX8_insert_115 ?_
            refine E_vret dX8_insert_118 ?_
            first | (exfalso; omega) | (refine ⟨rfl, _, rfl, (hd (gtP_0 (by omega) (by omega))).kept up_01 up_02, ?_, ((h6.up (by omega) (by omega)).up (by omega) (by omega)).up (by omega) (by omega)⟩; funext j; rw [up_r, up_r, up_n2, up_n1, h5])
          · -- 60
            refine E_aload_n dX8_insert_60 rfl ?_
            refine GX8_9 hr.1 dX8_insert_61 ?_
            refine E_iload_n dX8_insert_64 rfl ?_
            refine E_aload_n dX8_insert_65 rfl ?_
            refine GX8_9 hr.1 dX8_insert_66 ?_
            refine E_iload_n dX8_insert_69 rfl ?_
            refine E_iconst dX8_insert_70 ?_
            refine E_isub dX8_insert_71 ?_
            refine H_iald hr.2.1 dX8_insert_72 ?_
            rw [hs, hla.1]
            refine H_iast hr.2.1 dX8_insert_73 ?_
            refine E_aload_n dX8_insert_74 rfl ?_
            refine GX8_15 hr.1 dX8_insert_75 ?_
            refine E_iload_n dX8_insert_78 rfl ?_
            refine E_aload_n dX8_insert_79 rfl ?_
            refine GX8_15 hr.1 dX8_insert_80 ?_
            refine E_iload_n dX8_insert_83 rfl ?_
            refine E_iconst dX8_insert_84 ?_
            refine E_isub dX8_insert_85 ?_
            refine H_iald hr.2.2 dX8_insert_86 ?_
            rw [hs, up_12, hla.2]
            refine H_iast hr.2.2 dX8_insert_87 ?_
            refine E_iinc dX8_insert_88 rfl ?_
            refine E_goto 20 dX8_insert_91 ?_
            rw [show (p.length : Int) + 1 + -1 = p.length by omega]
            refine ih p (y :: q) _ (by simp at h1; omega) (by rw [← h2]; simp) ?_ hsh (by rw [up_n2, up_n1]; exact h5) ((h6.up (by omega) (by omega)).up (by omega) (by omega))
            intro z hz
            rcases List.mem_cons.mp hz with rfl | hz
            · first | exact gtP_1 (by omega) | exact gtP_2 (by omega) (by omega)
            · exact h3 z hz
theorem c_insert {d : Sp} {x : Fib} (hr : isSp r) (hd : RepD μ r d) (hx : smF x) (hl : ∀ y ∈ d.2.2.2, smF y) : Ctr G mX8_insert [.ref r, vi x.1, vi x.2] (Hp μ) (V0 (fun μ' => RepD μ' r (d.1, d.2.1, d.2.2.1, ins x d.2.2.2) ∧ Off r 3 μ μ')) := by
  refine Ctr.of ?_
  obtain ⟨a1, a2, a3, a4, a5⟩ := id hd
  have h3 : (d.2.2.2.length < 6 ∧ μ r 3 = d.2.2.2.length) ∨ (6 ≤ d.2.2.2.length ∧ μ r 3 = 6) := by
    rcases Nat.lt_or_ge 6 d.2.2.2.length with h | h
    · exact Or.inr ⟨by omega, (a5 h).1⟩
    · have := (a4 h).1
      omega
  refine E_aload_n dX8_insert_0 rfl ?_
  refine GX8_28 hr.1 dX8_insert_1 ?_
  refine E_bipush dX8_insert_4 ?_
  refine E_icmp_lt 15 dX8_insert_6 (fun h6 => ?_) (fun h6 => ?_)
  · -- 15
    refine E_aload_n dX8_insert_15 rfl ?_
    refine GX8_28 hr.1 dX8_insert_16 ?_
    refine E_istore_n dX8_insert_19 ?_
    have hlt : d.2.2.2.length < 6 := by omega
    rw [(a4 (by omega)).1]
    refine E_mono ?_ (ins_loop (μ := μ) hr hx hl hlt _ d.2.2.2 [] μ rfl (by simp) (fun y hy => by simp at hy) (InsI.of (a4 (by omega)).2.2) rfl Off.rf)
    rintro v M ⟨hv, μ', hM, g1, g2, g3⟩
    refine ⟨hv, μ', hM, ⟨?_, ?_, ?_, fun _ => ⟨?_, ?_, g1⟩, fun h => absurd h (by simp only [ins_len]; omega)⟩, g3⟩
    · rw [g2, up_r, if_neg (by omega)]; exact a1
    · rw [g2, up_r, if_neg (by omega)]; exact a2
    · rw [g2, up_r, if_neg (by omega)]; exact a3
    · rw [g2, up_r, if_pos rfl, (a4 (by omega)).1]; simp [ins_len]
    · rw [g2, up_r, if_neg (by omega)]; exact (a4 (by omega)).2.1
  · -- 9
    refine E_aload_n dX8_insert_9 rfl ?_
    refine E_iconst dX8_insert_10 ?_
    refine PX8_31 hr.1 dX8_insert_11 (by first | exact Or.inl rfl | exact Or.inr rfl | omega) ?_
    refine E_vret dX8_insert_14 ?_
    refine ⟨rfl, _, rfl, ⟨?_, ?_, ?_, fun h => absurd h (by simp only [ins_len]; omega), fun h => ⟨?_, ?_⟩⟩, Off.rf.up (by omega) (by omega)⟩
    · rw [up_r, if_neg (by omega)]; exact a1
    · rw [up_r, if_neg (by omega)]; exact a2
    · rw [up_r, if_neg (by omega)]; exact a3
    · rw [up_r, if_neg (by omega)]; omega
    · rw [up_r, if_pos rfl]
theorem c_put {d : Sp} {a b : Int} (hr : isSp r) (hd : RepD μ r d) (ha : 1 ≤ a ∧ a ≤ 1000) (hb : -1000000 ≤ b ∧ b ≤ 1000000) (hl : ∀ y ∈ d.2.2.2, smF y) : Ctr G mX8_put [.ref r, vi a, vi b] (Hp μ) (V0 (fun μ' => RepD μ' r (put d a b) ∧ Off r 3 μ μ')) := by
  refine Ctr.of ?_
  obtain ⟨a1, a2, a3, a4, a5⟩ := id hd
  have hm0 := Int.emod_nonneg b (show a ≠ 0 by omega)
  have hm1 := Int.emod_lt_of_pos b (show 0 < a by omega)
  have hd1 : RepD (up μ r 2 (μ r 2 + b / a)) r (d.1, d.2.1, d.2.2.1 + b / a, d.2.2.2) := by
    refine ⟨?_, ?_, ?_, fun h => ⟨?_, ?_, (a4 h).2.2.kept up_01 up_02⟩, fun h => ⟨?_, ?_⟩⟩
    · rw [up_r, if_neg (by omega)]; exact a1
    · rw [up_r, if_neg (by omega)]; exact a2
    · rw [up_r, if_pos rfl, a3]
    · rw [up_r, if_neg (by omega)]; exact (a4 h).1
    · rw [up_r, if_neg (by omega)]; exact (a4 h).2.1
    · rw [up_r, if_neg (by omega)]; exact (a5 h).1
    · rw [up_r, if_neg (by omega)]; exact (a5 h).2
  have ho : Off r 3 μ (up μ r 2 (μ r 2 + b / a)) := Off.rf.up (by omega) (by omega)
  refine E_aload_n dX8_put_0 rfl ?_
  refine E_dup dX8_put_1 ?_
  refine GX8_25 hr.1 dX8_put_2 ?_
  refine E_iload_n dX8_put_5 rfl ?_
  refine E_i2l dX8_put_6 ?_
  refine E_iload_n dX8_put_7 rfl ?_
  refine E_i2l dX8_put_8 ?_
  refine E_callSR dX8_put_9 lkX8_45 (c_quotient (x := b) (z := a) (by omega) (by omega)) ?_
  refine E_l2i dX8_put_12 ?_
  refine E_iadd dX8_put_13 ?_
  refine PX8_25 hr.1 dX8_put_14 ?_
  refine E_iload_n dX8_put_17 rfl ?_
  refine E_iconst dX8_put_18 ?_
  refine E_icmp_le 35 dX8_put_19 (fun h19 => ?_) (fun h19 => ?_)
  · -- 35
    try (have hp : put d a b = (d.1, d.2.1, d.2.2.1 + b / a, ins (a, b % a) d.2.2.2) := by simp only [put]; rw [if_pos (by omega)])
    refine E_vret dX8_put_35 ?_
    first | exact ⟨rfl, _, rfl, by rw [hp]; exact g1, ho.tr g2⟩ | exact ⟨rfl, _, rfl, by simp only [put]; rw [if_neg (by omega)]; exact hd1, ho⟩
  · -- 22
    refine E_aload_n dX8_put_22 rfl ?_
    refine E_iload_n dX8_put_23 rfl ?_
    refine E_iload_n dX8_put_24 rfl ?_
    refine E_i2l dX8_put_25 ?_
    refine E_iload_n dX8_put_26 rfl ?_
    refine E_i2l dX8_put_27 ?_
    refine E_callSR dX8_put_28 lkX8_51 (c_modulo (x := b) (z := a) (by omega) (by omega)) ?_
    refine E_l2i dX8_put_31 ?_
    refine E_callVV dX8_put_32 lkX8_54 (Hp_get hr.1) (c_insert (x := (a, b % a)) hr hd1 ⟨by simp; omega, by simp; omega, by simp; omega, by simp; omega⟩ hl) ?_
    rintro μ2 ⟨g1, g2⟩
    try (have hp : put d a b = (d.1, d.2.1, d.2.2.1 + b / a, ins (a, b % a) d.2.2.2) := by simp only [put]; rw [if_pos (by omega)])
    refine E_vret dX8_put_35 ?_
    first | exact ⟨rfl, _, rfl, by rw [hp]; exact g1, ho.tr g2⟩ | exact ⟨rfl, _, rfl, by simp only [put]; rw [if_neg (by omega)]; exact hd1, ho⟩
theorem smF_put {d : Sp} {a b : Int} (ha : 1 ≤ a ∧ a ≤ 1000) (hl : ∀ y ∈ d.2.2.2, smF y) : ∀ y ∈ (put d a b).2.2.2, smF y := by
  have hm0 := Int.emod_nonneg b (show a ≠ 0 by omega)
  have hm1 := Int.emod_lt_of_pos b (show 0 < a by omega)
  intro y hy
  simp only [put] at hy
  split at hy
  · rcases ins_mem hy with rfl | h
    · exact ⟨by simp; omega, by simp; omega, by simp; omega, by simp; omega⟩
    · exact hl y h
  · exact hl y hy
theorem smF_putAll {k : Int} : ∀ (l : List Fib), (∀ x ∈ l, 1 ≤ x.1 ∧ x.1 ≤ 1000) → ∀ (d : Sp), (∀ y ∈ d.2.2.2, smF y) → ∀ y ∈ (putAll d l k).2.2.2, smF y
  | [], _, d, h => h
  | x :: l, hx, d, h => smF_putAll l (fun z hz => hx z (List.mem_cons_of_mem _ hz)) (put d x.1 (x.2 * k)) (smF_put (hx x List.mem_cons_self) h)
theorem putAll_loop {m : Int} {s : Sp} (hr : isSp r) (hf : isSp f) (hdj : f + 3 ≤ r ∨ r + 3 ≤ f) (hm : -100 ≤ m ∧ m ≤ 100) (hs : RepS μ f s) (hok : spOk s) : ∀ (q p : List Fib) (d : Sp) (μ' : Mem), p ++ q = s.2.2.2 → RepD μ' r d → (∀ y ∈ d.2.2.2, smF y) → Off r 3 μ μ' →
    E G mX8_putAll (Zq G mX8_putAll (V0 (fun μ' => RepD μ' r (putAll d q m) ∧ Off r 3 μ μ'))) 0 0 2 [.ref r, .ref f, vi m, vi (p.length : Int)] [] (Hp μ') := by
  intro q
  induction q with
  | nil =>
    intro p d μ' h1 h2 h3 h4
    have hs' := hs.off h4 (by omega)
    have hl : (p.length : Int) = μ' f 3 := by rw [hs'.2.2.2.1, ← h1]; simp
    have hb := hok.2.2.2.2.2.1
    have hb2 : p.length ≤ 6 := by rw [← h1] at hb; simp at hb; omega
    refine E_iload_n dX8_putAll_2 rfl ?_
    refine E_aload_n dX8_putAll_3 rfl ?_
    refine GX8_28 hf.1 dX8_putAll_4 ?_
    refine E_icmp_ge 34 dX8_putAll_7 (fun h7 => ?_) (fun h7 => ?_)
    · -- 34
      refine E_vret dX8_putAll_34 ?_
      exact ⟨rfl, _, rfl, h2, h4⟩
    · -- 10
      exfalso; omega
  | cons x q ih =>
    intro p d μ' h1 h2 h3 h4
    have hs' := hs.off h4 (by omega)
    have hl : (p.length : Int) + 1 + q.length = μ' f 3 := by rw [hs'.2.2.2.1, ← h1]; simp; omega
    have hb := hok.2.2.2.2.2.1
    have hb2 : p.length + 1 + q.length ≤ 6 := by rw [← h1] at hb; simp at hb; omega
    have hx := hok.2.2.2.2.2.2 x (by rw [← h1]; simp)
    have hat := hs'.2.2.2.2.2 p.length x (by rw [← h1]; simp)
    obtain ⟨x1, x2, x3, x4, -⟩ := id hx
    have hxm : -3000 ≤ x.2 * m ∧ x.2 * m ≤ 3000 := by
      have e1 : x.2 * m ≤ x.2 * 100 := Int.mul_le_mul_of_nonneg_left (by omega) (by omega)
      have e2 : x.2 * (-100) ≤ x.2 * m := Int.mul_le_mul_of_nonneg_left (by omega) (by omega)
      omega
    refine E_iload_n dX8_putAll_2 rfl ?_
    refine E_aload_n dX8_putAll_3 rfl ?_
    refine GX8_28 hf.1 dX8_putAll_4 ?_
    refine E_icmp_ge 34 dX8_putAll_7 (fun h7 => ?_) (fun h7 => ?_)
    · -- 34
      exfalso; omega
    · -- 10
      refine E_aload_n dX8_putAll_10 rfl ?_
      refine E_aload_n dX8_putAll_11 rfl ?_
      refine GX8_9 hf.1 dX8_putAll_12 ?_
      refine E_iload_n dX8_putAll_15 rfl ?_
      refine H_iald hf.2.1 dX8_putAll_16 ?_
      rw [hat.1]
      refine E_aload_n dX8_putAll_17 rfl ?_
      refine GX8_15 hf.1 dX8_putAll_18 ?_
      refine E_iload_n dX8_putAll_21 rfl ?_
      refine H_iald hf.2.2 dX8_putAll_22 ?_
      rw [hat.2]
      refine E_iload_n dX8_putAll_23 rfl ?_
      refine E_imul dX8_putAll_24 ?_
      refine E_callVV dX8_putAll_25 lkX8_58 (Hp_get hr.1) (c_put (a := x.1) (b := x.2 * m) hr h2 (by omega) (by omega) h3) ?_
      rintro μ2 ⟨g1, g2⟩
      refine E_iinc dX8_putAll_28 rfl ?_
      refine E_goto 2 dX8_putAll_31 ?_
      have := ih (p ++ [x]) _ μ2 (by rw [← h1]; simp) g1 (smF_put (by omega) h3) (h4.tr g2)
      rw [show ((p ++ [x]).length : Int) = (p.length : Int) + 1 by simp] at this
      exact this
theorem c_putAll {m : Int} {s d : Sp} (hr : isSp r) (hf : isSp f) (hdj : f + 3 ≤ r ∨ r + 3 ≤ f) (hm : -100 ≤ m ∧ m ≤ 100) (hs : RepS μ f s) (hok : spOk s) (hd : RepD μ r d) (hl : ∀ y ∈ d.2.2.2, smF y) :
    Ctr G mX8_putAll [.ref r, .ref f, vi m] (Hp μ) (V0 (fun μ' => RepD μ' r (putAll d s.2.2.2 m) ∧ Off r 3 μ μ')) := by
  refine Ctr.of ?_
  refine E_iconst dX8_putAll_0 ?_
  refine E_istore_n dX8_putAll_1 ?_
  exact putAll_loop hr hf hdj hm hs hok s.2.2.2 [] d μ rfl hd hl Off.rf
theorem c_becomeMultiple {m : Int} {s : Sp} (hr : isSp r) (hf : isSp f) (hdj : f + 3 ≤ r ∨ r + 3 ≤ f) (hm : -100 ≤ m ∧ m ≤ 100) (hs : RepS μ f s) (hok : spOk s) :
    Ctr G mX8_becomeMultiple [.ref r, .ref f, vi m] (Hp μ) (V0 (fun μ' => RepD μ' r (putAll (s.1, s.2.1, s.2.2.1 * m, []) s.2.2.2 m) ∧ Off r 3 μ μ')) := by
  refine Ctr.of ?_
  refine E_aload_n dX8_becomeMultiple_0 rfl ?_
  refine E_aload_n dX8_becomeMultiple_1 rfl ?_
  refine GX8_18 hf.1 dX8_becomeMultiple_2 ?_
  refine E_aload_n dX8_becomeMultiple_5 rfl ?_
  refine GX8_22 hf.1 dX8_becomeMultiple_6 ?_
  refine E_aload_n dX8_becomeMultiple_9 rfl ?_
  refine GX8_25 hf.1 dX8_becomeMultiple_10 ?_
  refine E_iload_n dX8_becomeMultiple_13 rfl ?_
  refine E_imul dX8_becomeMultiple_14 ?_
  rw [hs.1, hs.2.1, hs.2.2.1]
  refine E_callVV dX8_becomeMultiple_15 lkX8_35 (Hp_get hr.1) (c_start hr) ?_
  rintro μ1 ⟨b1, b2⟩
  refine E_aload_n dX8_becomeMultiple_18 rfl ?_
  refine E_aload_n dX8_becomeMultiple_19 rfl ?_
  refine E_iload_n dX8_becomeMultiple_20 rfl ?_
  refine E_callVV dX8_becomeMultiple_21 lkX8_61 (Hp_get hr.1) (c_putAll hr hf hdj hm (hs.off b2 (by omega)) hok b1 (fun y hy => by simp at hy)) ?_
  rintro μ2 ⟨g1, g2⟩
  refine E_vret dX8_becomeMultiple_24 ?_
  exact ⟨rfl, _, rfl, g1, b2.tr g2⟩
theorem c_genusAs {k : Int} {s : Sp} (hr : isSp r) (hs : RepS μ r s) (hok : spOk s) (hk : 0 ≤ k ∧ k ≤ 1) : Ctr G mX8_genusAs [.ref r, vi k] (Hp μ) (R1 (vi (if s.1 = k then s.2.1 else 2 * s.2.1)) (Hp μ)) := by
  refine Ctr.of ?_
  have h0 := hok.1
  rw [← hs.1] at h0
  rw [← hs.1, ← hs.2.1]
  refine E_aload_n dX8_genusAs_0 rfl ?_
  refine GX8_18 hr.1 dX8_genusAs_1 ?_
  refine E_iload_n dX8_genusAs_4 rfl ?_
  refine E_icmp_ne 15 dX8_genusAs_5 (fun h5 => ?_) (fun h5 => ?_)
  · -- 15
    refine E_iconst dX8_genusAs_15 ?_
    refine E_aload_n dX8_genusAs_16 rfl ?_
    refine GX8_22 hr.1 dX8_genusAs_17 ?_
    refine E_imul dX8_genusAs_20 ?_
    refine E_iret dX8_genusAs_21 ?_
    first | (rw [if_pos (by omega)]; exact ⟨rfl, rfl⟩) | (rw [if_neg (by omega)]; exact ⟨rfl, rfl⟩)
  · -- 8
    refine E_aload_n dX8_genusAs_8 rfl ?_
    refine GX8_22 hr.1 dX8_genusAs_9 ?_
    refine E_goto 21 dX8_genusAs_12 ?_
    refine E_iret dX8_genusAs_21 ?_
    first | (rw [if_pos (by omega)]; exact ⟨rfl, rfl⟩) | (rw [if_neg (by omega)]; exact ⟨rfl, rfl⟩)
/-- the join of two spaces, as it is drafted -/
def joinD (s t : Sp) : Sp := putAll (putAll (max s.1 t.1, (if s.1 = max s.1 t.1 then s.2.1 else 2 * s.2.1) + (if t.1 = max s.1 t.1 then t.2.1 else 2 * t.2.1), s.2.2.1 + t.2.2.1, []) s.2.2.2 1) t.2.2.2 1
theorem c_becomeJoin {g : Nat} {s t : Sp} (hr : isSp r) (hf : isSp f) (hg : isSp g) (hdj : f + 3 ≤ r ∨ r + 3 ≤ f) (hdg : g + 3 ≤ r ∨ r + 3 ≤ g) (hs : RepS μ f s) (hok : spOk s) (ht : RepS μ g t) (hokt : spOk t) :
    Ctr G mX8_becomeJoin [.ref r, .ref f, .ref g] (Hp μ) (V0 (fun μ' => RepD μ' r (joinD s t) ∧ Off r 3 μ μ')) := by
  refine Ctr.of ?_
  have h0 := hok.1
  have h1 := hokt.1
  have hsm : ∀ x ∈ s.2.2.2, 1 ≤ x.1 ∧ x.1 ≤ 1000 := fun x hx => by have := hok.2.2.2.2.2.2 x hx; obtain ⟨q1, q2, -⟩ := this; omega
  refine E_aload_n dX8_becomeJoin_0 rfl ?_
  refine GX8_18 hf.1 dX8_becomeJoin_1 ?_
  refine E_aload_n dX8_becomeJoin_4 rfl ?_
  refine GX8_18 hg.1 dX8_becomeJoin_5 ?_
  rw [hs.1, ht.1]
  refine E_callSR dX8_becomeJoin_8 lkX8_68 (c_max (x := s.1) (z := t.1) (by omega) (by omega)) ?_
  refine E_istore_n dX8_becomeJoin_11 ?_
  refine E_aload_n dX8_becomeJoin_12 rfl ?_
  refine E_iload_n dX8_becomeJoin_13 rfl ?_
  refine E_callVR dX8_becomeJoin_14 lkX8_72 (Hp_get hf.1) (c_genusAs (k := max s.1 t.1) hf hs hok (by omega)) ?_
  refine E_aload_n dX8_becomeJoin_17 rfl ?_
  refine E_iload_n dX8_becomeJoin_18 rfl ?_
  refine E_callVR dX8_becomeJoin_19 lkX8_72 (Hp_get hg.1) (c_genusAs (k := max s.1 t.1) hg ht hokt (by omega)) ?_
  refine E_iadd dX8_becomeJoin_22 ?_
  refine E_istore dX8_becomeJoin_23 ?_
  refine E_aload_n dX8_becomeJoin_25 rfl ?_
  refine E_iload_n dX8_becomeJoin_26 rfl ?_
  refine E_iload dX8_becomeJoin_27 rfl ?_
  refine E_aload_n dX8_becomeJoin_29 rfl ?_
  refine GX8_25 hf.1 dX8_becomeJoin_30 ?_
  refine E_aload_n dX8_becomeJoin_33 rfl ?_
  refine GX8_25 hg.1 dX8_becomeJoin_34 ?_
  refine E_iadd dX8_becomeJoin_37 ?_
  rw [hs.2.2.1, ht.2.2.1]
  refine E_callVV dX8_becomeJoin_38 lkX8_35 (Hp_get hr.1) (c_start hr) ?_
  rintro μ1 ⟨b1, b2⟩
  refine E_aload_n dX8_becomeJoin_41 rfl ?_
  refine E_aload_n dX8_becomeJoin_42 rfl ?_
  refine E_iconst dX8_becomeJoin_43 ?_
  refine E_callVV dX8_becomeJoin_44 lkX8_61 (Hp_get hr.1) (c_putAll (m := 1) hr hf hdj (by omega) (hs.off b2 (by omega)) hok b1 (fun y hy => by simp at hy)) ?_
  rintro μ2 ⟨g1, g2⟩
  refine E_aload_n dX8_becomeJoin_47 rfl ?_
  refine E_aload_n dX8_becomeJoin_48 rfl ?_
  refine E_iconst dX8_becomeJoin_49 ?_
  refine E_callVV dX8_becomeJoin_50 lkX8_61 (Hp_get hr.1) (c_putAll (m := 1) hr hg hdg (by omega) (ht.off (b2.tr g2) (by omega)) hokt g1 (smF_putAll _ hsm _ (fun y hy => by simp at hy))) ?_
  rintro μ3 ⟨k1, k2⟩
  refine E_vret dX8_becomeJoin_53 ?_
  exact ⟨rfl, _, rfl, k1, (b2.tr g2).tr k2⟩
theorem wo_loop {m : Nat} {s : Sp} (hr : isSp r) (hf : isSp f) (hdj : f + 3 ≤ r ∨ r + 3 ≤ f) (hm : m < 6) (hs : RepS μ f s) (hok : spOk s) : ∀ (q p : List Fib) (d : Sp) (μ' : Mem), p ++ q = s.2.2.2 → RepD μ' r d → (∀ y ∈ d.2.2.2, smF y) → Off r 3 μ μ' →
    E G mX8_becomeWithout (Zq G mX8_becomeWithout (V0 (fun μ' => RepD μ' r (putAll d (if p.length ≤ m then q.eraseIdx (m - p.length) else q) 1) ∧ Off r 3 μ μ'))) 0 0 18 [.ref r, .ref f, vi (m : Int), vi (p.length : Int)] [] (Hp μ') := by
  intro q
  induction q with
  | nil =>
    intro p d μ' h1 h2 h3 h4
    have hs' := hs.off h4 (by omega)
    have hl : (p.length : Int) = μ' f 3 := by rw [hs'.2.2.2.1, ← h1]; simp
    have hb := hok.2.2.2.2.2.1
    have hb2 : p.length ≤ 6 := by rw [← h1] at hb; simp at hb; omega
    refine E_iload_n dX8_becomeWithout_18 rfl ?_
    refine E_aload_n dX8_becomeWithout_19 rfl ?_
    refine GX8_28 hf.1 dX8_becomeWithout_20 ?_
    refine E_icmp_ge 53 dX8_becomeWithout_23 (fun h23 => ?_) (fun h23 => ?_)
    · -- 53
      refine E_vret dX8_becomeWithout_53 ?_
      refine ⟨rfl, _, rfl, ?_, h4⟩
      simp [putAll]; exact h2
    · -- 26
      exfalso; omega
  | cons x q ih =>
    intro p d μ' h1 h2 h3 h4
    have hs' := hs.off h4 (by omega)
    have hl : (p.length : Int) + 1 + q.length = μ' f 3 := by rw [hs'.2.2.2.1, ← h1]; simp; omega
    have hb := hok.2.2.2.2.2.1
    have hb2 : p.length + 1 + q.length ≤ 6 := by rw [← h1] at hb; simp at hb; omega
    have hx := hok.2.2.2.2.2.2 x (by rw [← h1]; simp)
    have hat := hs'.2.2.2.2.2 p.length x (by rw [← h1]; simp)
    obtain ⟨x1, x2, x3, x4, -⟩ := id hx
    have hp1 : ((p ++ [x]).length : Int) = (p.length : Int) + 1 := by simp
    refine E_iload_n dX8_becomeWithout_18 rfl ?_
    refine E_aload_n dX8_becomeWithout_19 rfl ?_
    refine GX8_28 hf.1 dX8_becomeWithout_20 ?_
    refine E_icmp_ge 53 dX8_becomeWithout_23 (fun h23 => ?_) (fun h23 => ?_)
    · -- 53
      exfalso; omega
    · -- 26
      refine E_iload_n dX8_becomeWithout_26 rfl ?_
      refine E_iload_n dX8_becomeWithout_27 rfl ?_
      refine E_icmp_eq 47 dX8_becomeWithout_28 (fun h28 => ?_) (fun h28 => ?_)
      · -- 47
        refine E_iinc dX8_becomeWithout_47 rfl ?_
        refine E_goto 18 dX8_becomeWithout_50 ?_
        first | (have := ih (p ++ [x]) _ μ2 (by rw [← h1]; simp) g1 (smF_put (by omega) h3) (h4.tr g2); rw [hp1] at this; rw [e1]; exact this) | skip
        all_goals (have := ih (p ++ [x]) _ μ' (by rw [← h1]; simp) h2 h3 h4; rw [hp1] at this; rw [if_pos (show p.length ≤ m by omega), show m - p.length = 0 by omega, List.eraseIdx_cons_zero]; rw [if_neg (by simp; omega)] at this; exact this)
      · -- 31
        refine E_aload_n dX8_becomeWithout_31 rfl ?_
        refine E_aload_n dX8_becomeWithout_32 rfl ?_
        refine GX8_9 hf.1 dX8_becomeWithout_33 ?_
        refine E_iload_n dX8_becomeWithout_36 rfl ?_
        refine H_iald hf.2.1 dX8_becomeWithout_37 ?_
        rw [hat.1]
        refine E_aload_n dX8_becomeWithout_38 rfl ?_
        refine GX8_15 hf.1 dX8_becomeWithout_39 ?_
        refine E_iload_n dX8_becomeWithout_42 rfl ?_
        refine H_iald hf.2.2 dX8_becomeWithout_43 ?_
        rw [hat.2]
        refine E_callVV dX8_becomeWithout_44 lkX8_58 (Hp_get hr.1) (c_put (a := x.1) (b := x.2) hr h2 (by omega) (by omega) h3) ?_
        rintro μ2 ⟨g1, g2⟩
        have e1 : putAll d (if p.length ≤ m then (x :: q).eraseIdx (m - p.length) else x :: q) 1 = putAll (put d x.1 x.2) (if (p ++ [x]).length ≤ m then q.eraseIdx (m - (p ++ [x]).length) else q) 1 := by
          rw [show (p ++ [x]).length = p.length + 1 by simp]
          by_cases hc : p.length ≤ m
          · rw [if_pos hc, if_pos (by omega), show m - p.length = (m - (p.length + 1)) + 1 by omega, List.eraseIdx_cons_succ]
            simp [putAll]
          · rw [if_neg hc, if_neg (by omega)]
            simp [putAll]
        refine E_iinc dX8_becomeWithout_47 rfl ?_
        refine E_goto 18 dX8_becomeWithout_50 ?_
        first | (have := ih (p ++ [x]) _ μ2 (by rw [← h1]; simp) g1 (smF_put (by omega) h3) (h4.tr g2); rw [hp1] at this; rw [e1]; exact this) | skip
        all_goals (have := ih (p ++ [x]) _ μ' (by rw [← h1]; simp) h2 h3 h4; rw [hp1] at this; rw [if_pos (show p.length ≤ m by omega), show m - p.length = 0 by omega, List.eraseIdx_cons_zero]; rw [if_neg (by simp; omega)] at this; exact this)
theorem c_becomeWithout {m : Nat} {s : Sp} (hr : isSp r) (hf : isSp f) (hdj : f + 3 ≤ r ∨ r + 3 ≤ f) (hm : m < 6) (hs : RepS μ f s) (hok : spOk s) :
    Ctr G mX8_becomeWithout [.ref r, .ref f, vi (m : Int)] (Hp μ) (V0 (fun μ' => RepD μ' r (putAll (s.1, s.2.1, s.2.2.1, []) (s.2.2.2.eraseIdx m) 1) ∧ Off r 3 μ μ')) := by
  refine Ctr.of ?_
  refine E_aload_n dX8_becomeWithout_0 rfl ?_
  refine E_aload_n dX8_becomeWithout_1 rfl ?_
  refine GX8_18 hf.1 dX8_becomeWithout_2 ?_
  refine E_aload_n dX8_becomeWithout_5 rfl ?_
  refine GX8_22 hf.1 dX8_becomeWithout_6 ?_
  refine E_aload_n dX8_becomeWithout_9 rfl ?_
  refine GX8_25 hf.1 dX8_becomeWithout_10 ?_
  rw [hs.1, hs.2.1, hs.2.2.1]
  refine E_callVV dX8_becomeWithout_13 lkX8_35 (Hp_get hr.1) (c_start hr) ?_
  rintro μ1 ⟨b1, b2⟩
  refine E_iconst dX8_becomeWithout_16 ?_
  refine E_istore_n dX8_becomeWithout_17 ?_
  refine E_mono ?_ (wo_loop (μ := μ) hr hf hdj hm hs hok s.2.2.2 [] _ μ1 rfl b1 (fun y hy => by simp at hy) b2)
  rintro v M ⟨hv, μ', hM, g1, g2⟩
  exact ⟨hv, μ', hM, by simpa using g1, g2⟩
def cov : Nat → List Fib → Sp → Sp
  | 0, _, d => d
  | t + 1, l, d => cov t l (putAll d l 1)
theorem cov_loop {n : Int} {s : Sp} (hr : isSp r) (hf : isSp f) (hdj : f + 3 ≤ r ∨ r + 3 ≤ f) (hs : RepS μ f s) (hok : spOk s) (hn : n ≤ 3) (w3 : Int) : ∀ (t : Nat) (k : Int) (d : Sp) (μ' : Mem), 0 ≤ k → k + t = n → RepD μ' r d → (∀ y ∈ d.2.2.2, smF y) → Off r 3 μ μ' →
    E G mX8_becomeCovering (Zq G mX8_becomeCovering (V0 (fun μ' => RepD μ' r (cov t s.2.2.2 d) ∧ Off r 3 μ μ'))) 0 0 34 [.ref r, .ref f, vi n, vi w3, vi k] [] (Hp μ') := by
  have hsm : ∀ x ∈ s.2.2.2, 1 ≤ x.1 ∧ x.1 ≤ 1000 := fun x hx => by have := hok.2.2.2.2.2.2 x hx; obtain ⟨q1, q2, -⟩ := this; omega
  intro t
  induction t with
  | zero =>
    intro k d μ' h0 h1 h2 h3 h4
    refine E_iload dX8_becomeCovering_34 rfl ?_
    refine E_iload_n dX8_becomeCovering_36 rfl ?_
    refine E_icmp_ge 52 dX8_becomeCovering_37 (fun h37 => ?_) (fun h37 => ?_)
    · -- 52
      refine E_vret dX8_becomeCovering_52 ?_
      exact ⟨rfl, _, rfl, h2, h4⟩
    · -- 40
      exfalso; omega
  | succ t ih =>
    intro k d μ' h0 h1 h2 h3 h4
    refine E_iload dX8_becomeCovering_34 rfl ?_
    refine E_iload_n dX8_becomeCovering_36 rfl ?_
    refine E_icmp_ge 52 dX8_becomeCovering_37 (fun h37 => ?_) (fun h37 => ?_)
    · -- 52
      exfalso; omega
    · -- 40
      refine E_aload_n dX8_becomeCovering_40 rfl ?_
      refine E_aload_n dX8_becomeCovering_41 rfl ?_
      refine E_iconst dX8_becomeCovering_42 ?_
      refine E_callVV dX8_becomeCovering_43 lkX8_61 (Hp_get hr.1) (c_putAll (m := 1) hr hf hdj (by omega) (hs.off h4 (by omega)) hok h2 h3) ?_
      rintro μ2 ⟨g1, g2⟩
      refine E_iinc dX8_becomeCovering_46 rfl ?_
      refine E_goto 34 dX8_becomeCovering_49 ?_
      exact ih (k + 1) _ μ2 (by omega) (by omega) g1 (smF_putAll _ hsm _ h3) (h4.tr g2)
theorem c_becomeCovering {n : Nat} {s : Sp} (hr : isSp r) (hf : isSp f) (hdj : f + 3 ≤ r ∨ r + 3 ≤ f) (hs : RepS μ f s) (hok : spOk s) (hn : n ≤ 3) :
    Ctr G mX8_becomeCovering [.ref r, .ref f, vi (n : Int)] (Hp μ) (V0 (fun μ' => RepD μ' r (cov n s.2.2.2 (s.1, n * (s.2.1 - (s.1 + 1)) + (s.1 + 1), s.2.2.1 * n, [])) ∧ Off r 3 μ μ')) := by
  refine Ctr.of ?_
  refine E_aload_n dX8_becomeCovering_0 rfl ?_
  refine GX8_18 hf.1 dX8_becomeCovering_1 ?_
  refine E_iconst dX8_becomeCovering_4 ?_
  refine E_iadd dX8_becomeCovering_5 ?_
  refine E_istore_n dX8_becomeCovering_6 ?_
  refine E_aload_n dX8_becomeCovering_7 rfl ?_
  refine E_aload_n dX8_becomeCovering_8 rfl ?_
  refine GX8_18 hf.1 dX8_becomeCovering_9 ?_
  refine E_iload_n dX8_becomeCovering_12 rfl ?_
  refine E_aload_n dX8_becomeCovering_13 rfl ?_
  refine GX8_22 hf.1 dX8_becomeCovering_14 ?_
  refine E_iload_n dX8_becomeCovering_17 rfl ?_
  refine E_isub dX8_becomeCovering_18 ?_
  refine E_imul dX8_becomeCovering_19 ?_
  refine E_iload_n dX8_becomeCovering_20 rfl ?_
  refine E_iadd dX8_becomeCovering_21 ?_
  refine E_aload_n dX8_becomeCovering_22 rfl ?_
  refine GX8_25 hf.1 dX8_becomeCovering_23 ?_
  refine E_iload_n dX8_becomeCovering_26 rfl ?_
  refine E_imul dX8_becomeCovering_27 ?_
  rw [hs.1, hs.2.1, hs.2.2.1]
  refine E_callVV dX8_becomeCovering_28 lkX8_35 (Hp_get hr.1) (c_start hr) ?_
  rintro μ1 ⟨b1, b2⟩
  refine E_iconst dX8_becomeCovering_31 ?_
  refine E_istore dX8_becomeCovering_32 ?_
  exact cov_loop (μ := μ) hr hf hdj hs hok (by omega) _ n 0 _ μ1 (by omega) (by omega) b1 (fun y hy => by simp at hy) b2
/-- a fibre of the space that turns into another by m -/
noncomputable def prt (m : Int) (x : Fib) : Fib := (x.1, x.2 * invI m x.1 % x.1)
noncomputable def carry (m : Int) (l : List Fib) : Int := (l.map (fun x => (prt m x).2 * m / x.1)).sum
theorem part_loop {m : Int} {s : Sp} (hr : isSp r) (hf : isSp f) (hdj : f + 3 ≤ r ∨ r + 3 ≤ f) (hm : 2 ≤ m ∧ m ≤ 9) (hs : RepS μ f s) (hok : spOk s) (hco : ∀ x ∈ s.2.2.2, Int.gcd x.1 m = 1) : ∀ (q p : List Fib) (d : Sp) (c : Int) (w5 w6 : Value) (μ' : Mem), p ++ q = s.2.2.2 → RepD μ' r d → (∀ y ∈ d.2.2.2, smF y) → Off r 3 μ μ' → 0 ≤ c → c ≤ 10 * p.length → d.1 = s.1 → d.2.1 = s.2.1 →
    E G mX8_becomePart (Zq G mX8_becomePart (V1 (vi (if (s.2.2.1 - (c + carry m q)) / m * m = s.2.2.1 - (c + carry m q) then 1 else 0)) (fun μ' => RepD μ' r (s.1, s.2.1, (s.2.2.1 - (c + carry m q)) / m, (putAll d (q.map (prt m)) 1).2.2.2) ∧ Off r 3 μ μ'))) 0 0 18 [.ref r, .ref f, vi m, vi c, vi (p.length : Int), w5, w6] [] (Hp μ') := by
  have hsh := hok.2.2.2.1
  have hsh2 := hok.2.2.2.2.1
  intro q
  induction q with
  | nil =>
    intro p d c w5 w6 μ' h1 h2 h3 h4 h5 h6 h7 h8
    have hs' := hs.off h4 (by omega)
    have hl : (p.length : Int) = μ' f 3 := by rw [hs'.2.2.2.1, ← h1]; simp
    have hb := hok.2.2.2.2.2.1
    have hb2 : p.length ≤ 6 := by rw [← h1] at hb; simp at hb; omega
    have e0 : c + carry m [] = c := by simp [carry]
    rw [e0]
    have hq : -1000 ≤ (s.2.2.1 - c) / m ∧ (s.2.2.1 - c) / m ≤ 1000 := by
      have q1 := Int.mul_ediv_add_emod (s.2.2.1 - c) m
      have q2 := Int.emod_nonneg (s.2.2.1 - c) (show m ≠ 0 by omega)
      have q3 := Int.emod_lt_of_pos (s.2.2.1 - c) (show 0 < m by omega)
      generalize (s.2.2.1 - c) / m = z at q1 ⊢
      rcases (show z ≤ -1001 ∨ -1000 ≤ z by omega) with q4 | q4
      · have := Int.mul_le_mul_of_nonneg_left q4 (show 0 ≤ m by omega)
        omega
      · rcases (show 1001 ≤ z ∨ z ≤ 1000 by omega) with q5 | q5
        · have := Int.mul_le_mul_of_nonneg_left q5 (show 0 ≤ m by omega)
          omega
        · exact ⟨q4, q5⟩
    have hq2 : -9000 ≤ (s.2.2.1 - c) / m * m ∧ (s.2.2.1 - c) / m * m ≤ 9000 := by
      generalize (s.2.2.1 - c) / m = z at hq ⊢
      have t1 := Int.mul_le_mul_of_nonneg_right hq.1 (show 0 ≤ m by omega)
      have t2 := Int.mul_le_mul_of_nonneg_right hq.2 (show 0 ≤ m by omega)
      omega
    have hrep : RepD (up μ' r 2 ((s.2.2.1 - c) / m)) r (s.1, s.2.1, (s.2.2.1 - c) / m, d.2.2.2) := by
      refine ⟨?_, ?_, ?_, fun h => ⟨?_, ?_, (h2.2.2.2.1 h).2.2.kept up_01 up_02⟩, fun h => ⟨?_, ?_⟩⟩
      · rw [up_r, if_neg (by omega)]; rw [h2.1, h7]
      · rw [up_r, if_neg (by omega)]; rw [h2.2.1, h8]
      · rw [up_r, if_pos rfl]
      · rw [up_r, if_neg (by omega)]; exact (h2.2.2.2.1 h).1
      · rw [up_r, if_neg (by omega)]; exact (h2.2.2.2.1 h).2.1
      · rw [up_r, if_neg (by omega)]; exact (h2.2.2.2.2 h).1
      · rw [up_r, if_neg (by omega)]; exact (h2.2.2.2.2 h).2
    refine E_iload dX8_becomePart_18 rfl ?_
    refine E_aload_n dX8_becomePart_20 rfl ?_
    refine GX8_28 hf.1 dX8_becomePart_21 ?_
    refine E_icmp_ge 91 dX8_becomePart_24 (fun h24 => ?_) (fun h24 => ?_)
    · -- 91
      refine E_aload_n dX8_becomePart_91 rfl ?_
      refine E_aload_n dX8_becomePart_92 rfl ?_
      refine GX8_25 hf.1 dX8_becomePart_93 ?_
      refine E_iload_n dX8_becomePart_96 rfl ?_
      refine E_isub dX8_becomePart_97 ?_
      rw [hs'.2.2.1]
      refine E_i2l dX8_becomePart_98 ?_
      refine E_iload_n dX8_becomePart_99 rfl ?_
      refine E_i2l dX8_becomePart_100 ?_
      refine E_callSR dX8_becomePart_101 lkX8_45 (c_quotient (x := s.2.2.1 - c) (z := m) (by omega) (by omega)) ?_
      refine E_l2i dX8_becomePart_104 ?_
      refine PX8_25 hr.1 dX8_becomePart_105 ?_
      refine E_aload_n dX8_becomePart_108 rfl ?_
      refine GX8_25 hr.1 dX8_becomePart_109 ?_
      rw [up_r, if_pos rfl]
      refine E_iload_n dX8_becomePart_112 rfl ?_
      refine E_imul dX8_becomePart_113 ?_
      refine E_aload_n dX8_becomePart_114 rfl ?_
      refine GX8_25 hf.1 dX8_becomePart_115 ?_
      rw [up_ne f (show f ≠ r by omega), hs'.2.2.1]
      refine E_iload_n dX8_becomePart_118 rfl ?_
      refine E_isub dX8_becomePart_119 ?_
      refine E_icmp_ne 127 dX8_becomePart_120 (fun h120 => ?_) (fun h120 => ?_)
      · -- 127
        refine E_iconst dX8_becomePart_127 ?_
        refine E_zret dX8_becomePart_128 ?_ (by first | exact Or.inl rfl | exact Or.inr rfl | omega)
        first | (rw [if_pos (by omega)]; exact ⟨rfl, _, rfl, hrep, h4.up (by omega) (by omega)⟩) | (rw [if_neg (by omega)]; exact ⟨rfl, _, rfl, hrep, h4.up (by omega) (by omega)⟩)
      · -- 123
        refine E_iconst dX8_becomePart_123 ?_
        refine E_goto 128 dX8_becomePart_124 ?_
        refine E_zret dX8_becomePart_128 ?_ (by first | exact Or.inl rfl | exact Or.inr rfl | omega)
        first | (rw [if_pos (by omega)]; exact ⟨rfl, _, rfl, hrep, h4.up (by omega) (by omega)⟩) | (rw [if_neg (by omega)]; exact ⟨rfl, _, rfl, hrep, h4.up (by omega) (by omega)⟩)
    · -- 27
      exfalso; omega
  | cons x q ih =>
    intro p d c w5 w6 μ' h1 h2 h3 h4 h5 h6 h7 h8
    have hs' := hs.off h4 (by omega)
    have hl : (p.length : Int) + 1 + q.length = μ' f 3 := by rw [hs'.2.2.2.1, ← h1]; simp; omega
    have hb := hok.2.2.2.2.2.1
    have hb2 : p.length + 1 + q.length ≤ 6 := by rw [← h1] at hb; simp at hb; omega
    have hx := hok.2.2.2.2.2.2 x (by rw [← h1]; simp)
    have hgx := hco x (by rw [← h1]; simp)
    have hat := hs'.2.2.2.2.2 p.length x (by rw [← h1]; simp)
    obtain ⟨x1, x2, x3, x4, -⟩ := id hx
    have hp1 : ((p ++ [x]).length : Int) = (p.length : Int) + 1 := by simp
    have hinv := invI_rng (x := m) (m := x.1) (by omega)
    have hin1 : 0 ≤ x.2 * invI m x.1 ∧ x.2 * invI m x.1 ≤ 900 := by
      have t1 := Int.mul_nonneg (show 0 ≤ x.2 by omega) hinv.1
      have t2 := Int.mul_le_mul_of_nonneg_left (show invI m x.1 ≤ 30 by omega) (show 0 ≤ x.2 by omega)
      omega
    have hb1 := Int.emod_nonneg (x.2 * invI m x.1) (show x.1 ≠ 0 by omega)
    have hb3 := Int.emod_lt_of_pos (x.2 * invI m x.1) (show 0 < x.1 by omega)
    have hbm : 0 ≤ x.2 * invI m x.1 % x.1 * m ∧ x.2 * invI m x.1 % x.1 * m ≤ 270 := by
      have t1 := Int.mul_nonneg hb1 (show 0 ≤ m by omega)
      have t2 := Int.mul_le_mul_of_nonneg_left (show m ≤ 9 by omega) hb1
      omega
    have hcx : 0 ≤ x.2 * invI m x.1 % x.1 * m / x.1 ∧ x.2 * invI m x.1 % x.1 * m / x.1 ≤ 9 := by
      refine ⟨Int.ediv_nonneg hbm.1 (by omega), ?_⟩
      have t2 := Int.mul_le_mul_of_nonneg_left (show m ≤ 9 by omega) hb1
      have t3 : x.2 * invI m x.1 % x.1 * m < x.1 * 10 := by omega
      have := Int.ediv_lt_of_lt_mul (show 0 < x.1 by omega) (show x.2 * invI m x.1 % x.1 * m < 10 * x.1 by omega)
      omega
    refine E_iload dX8_becomePart_18 rfl ?_
    refine E_aload_n dX8_becomePart_20 rfl ?_
    refine GX8_28 hf.1 dX8_becomePart_21 ?_
    refine E_icmp_ge 91 dX8_becomePart_24 (fun h24 => ?_) (fun h24 => ?_)
    · -- 91
      exfalso; omega
    · -- 27
      refine E_aload_n dX8_becomePart_27 rfl ?_
      refine GX8_9 hf.1 dX8_becomePart_28 ?_
      refine E_iload dX8_becomePart_31 rfl ?_
      refine H_iald hf.2.1 dX8_becomePart_33 ?_
      rw [hat.1]
      refine E_istore dX8_becomePart_34 ?_
      refine E_aload_n dX8_becomePart_36 rfl ?_
      refine GX8_15 hf.1 dX8_becomePart_37 ?_
      refine E_iload dX8_becomePart_40 rfl ?_
      refine H_iald hf.2.2 dX8_becomePart_42 ?_
      rw [hat.2]
      refine E_i2l dX8_becomePart_43 ?_
      refine E_iload_n dX8_becomePart_44 rfl ?_
      refine E_i2l dX8_becomePart_45 ?_
      refine E_iload dX8_becomePart_46 rfl ?_
      refine E_i2l dX8_becomePart_48 ?_
      refine E_callSR dX8_becomePart_49 lkX8_65 (c_inverse (x := m) (m := x.1) (by omega) (by omega) (by rw [Int.gcd_comm]; exact hgx)) ?_
      refine E_lmul dX8_becomePart_52 ?_
      refine E_iload dX8_becomePart_53 rfl ?_
      refine E_i2l dX8_becomePart_55 ?_
      refine E_callSR dX8_becomePart_56 lkX8_51 (c_modulo (x := x.2 * invI m x.1) (z := x.1) (by omega) (by omega)) ?_
      refine E_l2i dX8_becomePart_59 ?_
      refine E_istore dX8_becomePart_60 ?_
      refine E_iload_n dX8_becomePart_62 rfl ?_
      refine E_iload dX8_becomePart_63 rfl ?_
      refine E_iload_n dX8_becomePart_65 rfl ?_
      refine E_imul dX8_becomePart_66 ?_
      refine E_i2l dX8_becomePart_67 ?_
      refine E_iload dX8_becomePart_68 rfl ?_
      refine E_i2l dX8_becomePart_70 ?_
      refine E_callSR dX8_becomePart_71 lkX8_45 (c_quotient (x := x.2 * invI m x.1 % x.1 * m) (z := x.1) (by omega) (by omega)) ?_
      refine E_l2i dX8_becomePart_74 ?_
      refine E_iadd dX8_becomePart_75 ?_
      refine E_istore_n dX8_becomePart_76 ?_
      refine E_aload_n dX8_becomePart_77 rfl ?_
      refine E_iload dX8_becomePart_78 rfl ?_
      refine E_iload dX8_becomePart_80 rfl ?_
      refine E_callVV dX8_becomePart_82 lkX8_58 (Hp_get hr.1) (c_put (a := x.1) (b := x.2 * invI m x.1 % x.1) hr h2 (by omega) (by omega) h3) ?_
      rintro μ2 ⟨g1, g2⟩
      refine E_iinc dX8_becomePart_85 rfl ?_
      refine E_goto 18 dX8_becomePart_88 ?_
      have := ih (p ++ [x]) _ (c + x.2 * invI m x.1 % x.1 * m / x.1) (vi x.1) (vi (x.2 * invI m x.1 % x.1)) μ2 (by rw [← h1]; simp) g1 (smF_put (by omega) h3) (h4.tr g2) (by omega) (by omega) h7 h8
      rw [hp1] at this
      have e1 : c + x.2 * invI m x.1 % x.1 * m / x.1 + carry m q = c + carry m (x :: q) := by simp [carry, prt]; omega
      have e2 : (putAll (put d x.1 (x.2 * invI m x.1 % x.1)) (q.map (prt m)) 1).2.2.2 = (putAll d ((x :: q).map (prt m)) 1).2.2.2 := by simp [putAll, prt]
      rw [e1, e2] at this
      exact this
theorem c_becomePart {m : Int} {s : Sp} (hr : isSp r) (hf : isSp f) (hdj : f + 3 ≤ r ∨ r + 3 ≤ f) (hm : 2 ≤ m ∧ m ≤ 9) (hs : RepS μ f s) (hok : spOk s) (hco : ∀ x ∈ s.2.2.2, Int.gcd x.1 m = 1) :
    Ctr G mX8_becomePart [.ref r, .ref f, vi m] (Hp μ) (V1 (vi (if (s.2.2.1 - carry m s.2.2.2) / m * m = s.2.2.1 - carry m s.2.2.2 then 1 else 0)) (fun μ' => RepD μ' r (s.1, s.2.1, (s.2.2.1 - carry m s.2.2.2) / m, (putAll (s.1, s.2.1, 0, []) (s.2.2.2.map (prt m)) 1).2.2.2) ∧ Off r 3 μ μ')) := by
  refine Ctr.of ?_
  refine E_aload_n dX8_becomePart_0 rfl ?_
  refine E_aload_n dX8_becomePart_1 rfl ?_
  refine GX8_18 hf.1 dX8_becomePart_2 ?_
  refine E_aload_n dX8_becomePart_5 rfl ?_
  refine GX8_22 hf.1 dX8_becomePart_6 ?_
  refine E_iconst dX8_becomePart_9 ?_
  rw [hs.1, hs.2.1]
  refine E_callVV dX8_becomePart_10 lkX8_35 (Hp_get hr.1) (c_start hr) ?_
  rintro μ1 ⟨b1, b2⟩
  refine E_iconst dX8_becomePart_13 ?_
  refine E_istore_n dX8_becomePart_14 ?_
  refine E_iconst dX8_becomePart_15 ?_
  refine E_istore dX8_becomePart_16 ?_
  have := part_loop (G := G) (μ := μ) hr hf hdj hm hs hok hco s.2.2.2 [] _ 0 (.retAddr 0) (.retAddr 0) μ1 rfl b1 (fun y hy => by simp at hy) b2 (by omega) (by simp) rfl rfl
  rw [Int.zero_add] at this
  exact this
theorem same_0 {s d : Sp} (hr : isSp r) (hd : RepS μ r d) (hl6 : d.2.2.2.length ≤ 6) (k : Int) (hk : 0 ≤ k ∧ k ≤ 6) :
    E G mX8_sameAs (Zq G mX8_sameAs (R1 (vi 0) (Hp μ))) 0 0 52 [.ref r, .ref f, vi 0, vi k] [] (Hp μ) := by
  have h3 := hd.2.2.2.1
  refine E_iload_n dX8_sameAs_52 rfl ?_
  refine E_aload_n dX8_sameAs_53 rfl ?_
  refine GX8_28 hr.1 dX8_sameAs_54 ?_
  refine E_icmp_ge 106 dX8_sameAs_57 (fun h57 => ?_) (fun h57 => ?_)
  · -- 106
    refine E_iload_n dX8_sameAs_106 rfl ?_
    refine E_zret dX8_sameAs_107 ?_ (by first | exact Or.inl rfl | exact Or.inr rfl | omega)
    exact ⟨rfl, rfl⟩
  · -- 60
    refine E_iload_n dX8_sameAs_60 rfl ?_
    refine E_if_eq 106 dX8_sameAs_61 (fun h61 => ?_) (fun h61 => ?_)
    · -- 106
      refine E_iload_n dX8_sameAs_106 rfl ?_
      refine E_zret dX8_sameAs_107 ?_ (by first | exact Or.inl rfl | exact Or.inr rfl | omega)
      exact ⟨rfl, rfl⟩
    · -- 64
      exfalso; omega
theorem same_loop {s d : Sp} (hr : isSp r) (hf : isSp f) (hd : RepS μ r d) (hs : RepS μ f s) (hl6 : d.2.2.2.length ≤ 6) (hsm : ∀ y ∈ d.2.2.2, smF y) (hss : ∀ y ∈ s.2.2.2, smF y) : ∀ (q q' p p' : List Fib), p ++ q = d.2.2.2 → p' ++ q' = s.2.2.2 → q.length = q'.length → p.length = p'.length →
    E G mX8_sameAs (Zq G mX8_sameAs (R1 (vi (if q = q' then 1 else 0)) (Hp μ))) 0 0 52 [.ref r, .ref f, vi 1, vi (p.length : Int)] [] (Hp μ) := by
  intro q
  induction q with
  | nil =>
    intro q' p p' h1 h2 h3 h4
    obtain rfl : q' = [] := by simpa using h3.symm
    have hl : (p.length : Int) = μ r 3 := by rw [hd.2.2.2.1, ← h1]; simp
    have hb2 : p.length ≤ 6 := by rw [← h1] at hl6; simpa using hl6
    refine E_iload_n dX8_sameAs_52 rfl ?_
    refine E_aload_n dX8_sameAs_53 rfl ?_
    refine GX8_28 hr.1 dX8_sameAs_54 ?_
    refine E_icmp_ge 106 dX8_sameAs_57 (fun h57 => ?_) (fun h57 => ?_)
    · -- 106
      refine E_iload_n dX8_sameAs_106 rfl ?_
      refine E_zret dX8_sameAs_107 ?_ (by first | exact Or.inl rfl | exact Or.inr rfl | omega)
      exact ⟨rfl, rfl⟩
    · -- 60
      exfalso; omega
  | cons x q ih =>
    intro q' p p' h1 h2 h3 h4
    match q', h2, h3 with
    | [], _, h3 => simp at h3
    | x' :: q', h2, h3 =>
    have hl : (p.length : Int) + 1 + q.length = μ r 3 := by rw [hd.2.2.2.1, ← h1]; simp; omega
    have hb2 : p.length + 1 + q.length ≤ 6 := by rw [← h1] at hl6; simp at hl6; omega
    have hx := hsm x (by rw [← h1]; simp)
    have hx' := hss x' (by rw [← h2]; simp)
    have hat := hd.2.2.2.2.2 p.length x (by rw [← h1]; simp)
    have hat' := hs.2.2.2.2.2 p.length x' (by rw [← h2, h4]; simp)
    obtain ⟨x1, x2, x3, x4⟩ := id hx
    obtain ⟨y1, y2, y3, y4⟩ := id hx'
    have hp1 : ((p ++ [x]).length : Int) = (p.length : Int) + 1 := by simp
    simp only [List.length_cons, Nat.add_right_cancel_iff] at h3
    refine E_iload_n dX8_sameAs_52 rfl ?_
    refine E_aload_n dX8_sameAs_53 rfl ?_
    refine GX8_28 hr.1 dX8_sameAs_54 ?_
    refine E_icmp_ge 106 dX8_sameAs_57 (fun h57 => ?_) (fun h57 => ?_)
    · -- 106
      exfalso; omega
    · -- 60
      refine E_iload_n dX8_sameAs_60 rfl ?_
      refine E_if_eq 106 dX8_sameAs_61 (fun h61 => ?_) (fun h61 => ?_)
      · -- 106
        exfalso; omega
      · -- 64
        refine E_aload_n dX8_sameAs_64 rfl ?_
        refine GX8_9 hr.1 dX8_sameAs_65 ?_
        refine E_iload_n dX8_sameAs_68 rfl ?_
        refine H_iald hr.2.1 dX8_sameAs_69 ?_
        rw [hat.1]
        refine E_aload_n dX8_sameAs_70 rfl ?_
        refine GX8_9 hf.1 dX8_sameAs_71 ?_
        refine E_iload_n dX8_sameAs_74 rfl ?_
        refine H_iald hf.2.1 dX8_sameAs_75 ?_
        rw [hat'.1]
        refine E_icmp_ne 98 dX8_sameAs_76 (fun h76 => ?_) (fun h76 => ?_)
        · -- 98
          refine E_iconst dX8_sameAs_98 ?_
          refine E_istore_n dX8_sameAs_99 ?_
          refine E_iinc dX8_sameAs_100 rfl ?_
          refine E_goto 52 dX8_sameAs_103 ?_
          first | (rw [show (if x :: q = x' :: q' then (1 : Int) else 0) = 0 from if_neg (fun e => by simp at e; have := e.1; first | exact h76 (by rw [this]) | exact h91 (by rw [this]))]; exact same_0 (s := s) hr hd hl6 _ (by omega)) | skip
          all_goals (have := ih q' (p ++ [x]) (p' ++ [x']) (by rw [← h1]; simp) (by rw [← h2]; simp) h3 (by simp [h4]); rw [hp1] at this; have e1 : x = x' := Prod.ext (by omega) (by omega); rw [e1]; simp only [List.cons.injEq, true_and]; exact this)
        · -- 79
          refine E_aload_n dX8_sameAs_79 rfl ?_
          refine GX8_15 hr.1 dX8_sameAs_80 ?_
          refine E_iload_n dX8_sameAs_83 rfl ?_
          refine H_iald hr.2.2 dX8_sameAs_84 ?_
          rw [hat.2]
          refine E_aload_n dX8_sameAs_85 rfl ?_
          refine GX8_15 hf.1 dX8_sameAs_86 ?_
          refine E_iload_n dX8_sameAs_89 rfl ?_
          refine H_iald hf.2.2 dX8_sameAs_90 ?_
          rw [hat'.2]
          refine E_icmp_ne 98 dX8_sameAs_91 (fun h91 => ?_) (fun h91 => ?_)
          · -- 98
            refine E_iconst dX8_sameAs_98 ?_
            refine E_istore_n dX8_sameAs_99 ?_
            refine E_iinc dX8_sameAs_100 rfl ?_
            refine E_goto 52 dX8_sameAs_103 ?_
            first | (rw [show (if x :: q = x' :: q' then (1 : Int) else 0) = 0 from if_neg (fun e => by simp at e; have := e.1; first | exact h76 (by rw [this]) | exact h91 (by rw [this]))]; exact same_0 (s := s) hr hd hl6 _ (by omega)) | skip
            all_goals (have := ih q' (p ++ [x]) (p' ++ [x']) (by rw [← h1]; simp) (by rw [← h2]; simp) h3 (by simp [h4]); rw [hp1] at this; have e1 : x = x' := Prod.ext (by omega) (by omega); rw [e1]; simp only [List.cons.injEq, true_and]; exact this)
          · -- 94
            refine E_iconst dX8_sameAs_94 ?_
            refine E_goto 99 dX8_sameAs_95 ?_
            refine E_istore_n dX8_sameAs_99 ?_
            refine E_iinc dX8_sameAs_100 rfl ?_
            refine E_goto 52 dX8_sameAs_103 ?_
            first | (rw [show (if x :: q = x' :: q' then (1 : Int) else 0) = 0 from if_neg (fun e => by simp at e; have := e.1; first | exact h76 (by rw [this]) | exact h91 (by rw [this]))]; exact same_0 (s := s) hr hd hl6 _ (by omega)) | skip
            all_goals (have := ih q' (p ++ [x]) (p' ++ [x']) (by rw [← h1]; simp) (by rw [← h2]; simp) h3 (by simp [h4]); rw [hp1] at this; have e1 : x = x' := Prod.ext (by omega) (by omega); rw [e1]; simp only [List.cons.injEq, true_and]; exact this)
theorem c_sameAs {s d : Sp} (hr : isSp r) (hf : isSp f) (hd : RepS μ r d) (hs : RepS μ f s) (hl6 : d.2.2.2.length ≤ 6) (hl7 : s.2.2.2.length ≤ 6) (hsm : ∀ y ∈ d.2.2.2, smF y) (hss : ∀ y ∈ s.2.2.2, smF y)
    (hk : -100000 ≤ d.1 ∧ d.1 ≤ 100000 ∧ -100000 ≤ d.2.1 ∧ d.2.1 ≤ 100000 ∧ -100000 ≤ d.2.2.1 ∧ d.2.2.1 ≤ 100000) (hk2 : -100000 ≤ s.1 ∧ s.1 ≤ 100000 ∧ -100000 ≤ s.2.1 ∧ s.2.1 ≤ 100000 ∧ -100000 ≤ s.2.2.1 ∧ s.2.2.1 ≤ 100000) : Ctr G mX8_sameAs [.ref r, .ref f] (Hp μ) (R1 (vi (if d = s then 1 else 0)) (Hp μ)) := by
  refine Ctr.of ?_
  obtain ⟨a1, a2, a3, a4, a5, a6⟩ := id hd
  obtain ⟨b1, b2, b3, b4, b5, b6⟩ := id hs
  refine E_aload_n dX8_sameAs_0 rfl ?_
  refine GX8_18 hr.1 dX8_sameAs_1 ?_
  refine E_aload_n dX8_sameAs_4 rfl ?_
  refine GX8_18 hf.1 dX8_sameAs_5 ?_
  refine E_icmp_ne 48 dX8_sameAs_8 (fun h8 => ?_) (fun h8 => ?_)
  · -- 48
    refine E_iconst dX8_sameAs_48 ?_
    refine E_istore_n dX8_sameAs_49 ?_
    refine E_iconst dX8_sameAs_50 ?_
    refine E_istore_n dX8_sameAs_51 ?_
    first | (rw [show (if d = s then (1 : Int) else 0) = 0 from if_neg (fun e => by subst e; omega)]; exact same_0 (s := s) hr hd hl6 _ (by omega)) | skip
    all_goals (have := same_loop (G := G) hr hf hd hs hl6 hsm hss d.2.2.2 s.2.2.2 [] [] rfl rfl (by omega) rfl; have e1 : (d = s) = (d.2.2.2 = s.2.2.2) := propext ⟨fun h => by rw [h], fun h => Prod.ext (by omega) (Prod.ext (by omega) (Prod.ext (by omega) h))⟩; simp only [e1]; exact this)
  · -- 11
    refine E_aload_n dX8_sameAs_11 rfl ?_
    refine GX8_22 hr.1 dX8_sameAs_12 ?_
    refine E_aload_n dX8_sameAs_15 rfl ?_
    refine GX8_22 hf.1 dX8_sameAs_16 ?_
    refine E_icmp_ne 48 dX8_sameAs_19 (fun h19 => ?_) (fun h19 => ?_)
    · -- 48
      refine E_iconst dX8_sameAs_48 ?_
      refine E_istore_n dX8_sameAs_49 ?_
      refine E_iconst dX8_sameAs_50 ?_
      refine E_istore_n dX8_sameAs_51 ?_
      first | (rw [show (if d = s then (1 : Int) else 0) = 0 from if_neg (fun e => by subst e; omega)]; exact same_0 (s := s) hr hd hl6 _ (by omega)) | skip
      all_goals (have := same_loop (G := G) hr hf hd hs hl6 hsm hss d.2.2.2 s.2.2.2 [] [] rfl rfl (by omega) rfl; have e1 : (d = s) = (d.2.2.2 = s.2.2.2) := propext ⟨fun h => by rw [h], fun h => Prod.ext (by omega) (Prod.ext (by omega) (Prod.ext (by omega) h))⟩; simp only [e1]; exact this)
    · -- 22
      refine E_aload_n dX8_sameAs_22 rfl ?_
      refine GX8_25 hr.1 dX8_sameAs_23 ?_
      refine E_aload_n dX8_sameAs_26 rfl ?_
      refine GX8_25 hf.1 dX8_sameAs_27 ?_
      refine E_icmp_ne 48 dX8_sameAs_30 (fun h30 => ?_) (fun h30 => ?_)
      · -- 48
        refine E_iconst dX8_sameAs_48 ?_
        refine E_istore_n dX8_sameAs_49 ?_
        refine E_iconst dX8_sameAs_50 ?_
        refine E_istore_n dX8_sameAs_51 ?_
        first | (rw [show (if d = s then (1 : Int) else 0) = 0 from if_neg (fun e => by subst e; omega)]; exact same_0 (s := s) hr hd hl6 _ (by omega)) | skip
        all_goals (have := same_loop (G := G) hr hf hd hs hl6 hsm hss d.2.2.2 s.2.2.2 [] [] rfl rfl (by omega) rfl; have e1 : (d = s) = (d.2.2.2 = s.2.2.2) := propext ⟨fun h => by rw [h], fun h => Prod.ext (by omega) (Prod.ext (by omega) (Prod.ext (by omega) h))⟩; simp only [e1]; exact this)
      · -- 33
        refine E_aload_n dX8_sameAs_33 rfl ?_
        refine GX8_28 hr.1 dX8_sameAs_34 ?_
        refine E_aload_n dX8_sameAs_37 rfl ?_
        refine GX8_28 hf.1 dX8_sameAs_38 ?_
        refine E_icmp_ne 48 dX8_sameAs_41 (fun h41 => ?_) (fun h41 => ?_)
        · -- 48
          refine E_iconst dX8_sameAs_48 ?_
          refine E_istore_n dX8_sameAs_49 ?_
          refine E_iconst dX8_sameAs_50 ?_
          refine E_istore_n dX8_sameAs_51 ?_
          first | (rw [show (if d = s then (1 : Int) else 0) = 0 from if_neg (fun e => by subst e; omega)]; exact same_0 (s := s) hr hd hl6 _ (by omega)) | skip
          all_goals (have := same_loop (G := G) hr hf hd hs hl6 hsm hss d.2.2.2 s.2.2.2 [] [] rfl rfl (by omega) rfl; have e1 : (d = s) = (d.2.2.2 = s.2.2.2) := propext ⟨fun h => by rw [h], fun h => Prod.ext (by omega) (Prod.ext (by omega) (Prod.ext (by omega) h))⟩; simp only [e1]; exact this)
        · -- 44
          refine E_iconst dX8_sameAs_44 ?_
          refine E_goto 49 dX8_sameAs_45 ?_
          refine E_istore_n dX8_sameAs_49 ?_
          refine E_iconst dX8_sameAs_50 ?_
          refine E_istore_n dX8_sameAs_51 ?_
          first | (rw [show (if d = s then (1 : Int) else 0) = 0 from if_neg (fun e => by subst e; omega)]; exact same_0 (s := s) hr hd hl6 _ (by omega)) | skip
          all_goals (have := same_loop (G := G) hr hf hd hs hl6 hsm hss d.2.2.2 s.2.2.2 [] [] rfl rfl (by omega) rfl; have e1 : (d = s) = (d.2.2.2 = s.2.2.2) := propext ⟨fun h => by rw [h], fun h => Prod.ext (by omega) (Prod.ext (by omega) (Prod.ext (by omega) h))⟩; simp only [e1]; exact this)
theorem sg_shr {x : Int} (hx : -9223372036854775808 < x ∧ x < 9223372036854775808) : Int64.ofInt x >>> ((Int32.ofInt 63).toInt64 &&& 63) = Int64.ofInt (if x < 0 then -1 else 0) := by
  rw [show ((Int32.ofInt 63).toInt64 &&& 63) = (63 : Int64) by decide]
  have h1 := l_in (x := x) (by omega)
  generalize Int64.ofInt x = v at h1
  apply Int64.toBitVec_inj.mp
  rw [Int64.toBitVec_shiftRight]
  have h2 : v.toBitVec.toInt = x := h1
  rw [show v.toBitVec.sshiftRight' ((Int64.toBitVec 63).smod 64) = v.toBitVec.sshiftRight 63 from congrArg v.toBitVec.sshiftRight (show ((Int64.toBitVec 63).smod 64).toNat = 63 by decide)]
  apply BitVec.eq_of_toInt_eq
  rw [BitVec.toInt_sshiftRight, h2, Int.shiftRight_eq_div_pow]
  split
  · rw [show (Int64.ofInt (-1)).toBitVec.toInt = -1 by decide]
    omega
  · rw [show (Int64.ofInt 0).toBitVec.toInt = 0 by decide]
    omega
theorem sg_ushr {x : Int} (hx : -9223372036854775808 < x ∧ x < 9223372036854775808) : ((Int64.ofInt (-x)).toUInt64 >>> ((Int32.ofInt 63).toInt64.toUInt64 &&& Int64.toUInt64 63)).toInt64 = Int64.ofInt (if 0 < x then 1 else 0) := by
  rw [show ((Int32.ofInt 63).toInt64.toUInt64 &&& Int64.toUInt64 63) = (63 : UInt64) by decide]
  have h1 := l_in (x := -x) (by omega)
  generalize Int64.ofInt (-x) = v at h1
  have h2 : v.toBitVec.toInt = -x := h1
  apply Int64.toBitVec_inj.mp
  have e1 : ((v.toUInt64 >>> (63 : UInt64)).toInt64).toBitVec = v.toBitVec >>> 63 := by rfl
  rw [e1]
  apply BitVec.eq_of_toNat_eq
  rw [BitVec.toNat_ushiftRight, Nat.shiftRight_eq_div_pow]
  have h3 := BitVec.toInt_eq_toNat_cond v.toBitVec
  have h4 := v.toBitVec.isLt
  rw [h2] at h3
  split
  · rw [show (Int64.ofInt 1).toBitVec.toNat = 1 by decide]
    split at h3 <;> omega
  · rw [show (Int64.ofInt 0).toBitVec.toNat = 0 by decide]
    split at h3 <;> omega
theorem sg_or {x : Int} : Int64.ofInt (if x < 0 then -1 else 0) ||| Int64.ofInt (if 0 < x then 1 else 0) = Int64.ofInt x.sign := by
  rcases (show x < 0 ∨ x = 0 ∨ 0 < x by omega) with h | h | h
  · rw [if_pos h, if_neg (by omega), Int.sign_eq_neg_one_of_neg h]; decide
  · subst h; decide
  · rw [if_neg (by omega), if_pos h, Int.sign_eq_one_of_pos h]; decide
theorem c_signum {M : HV} {x : Int} (hx : -9223372036854775808 < x ∧ x < 9223372036854775808) : Ctr G mJ13_signum_95d88 [vl x] M (R1 (vi x.sign) M) := by
  refine Ctr.of ?_
  refine E_lload_n dJ13_signum_95d88_0 rfl ?_
  refine E_bipush dJ13_signum_95d88_1 ?_
  refine E_lshr ((if x < 0 then -1 else 0)) dJ13_signum_95d88_3 (sg_shr hx) ?_
  refine E_lload_n dJ13_signum_95d88_4 rfl ?_
  refine E_lneg dJ13_signum_95d88_5 ?_
  refine E_bipush dJ13_signum_95d88_6 ?_
  refine E_lushr ((if 0 < x then 1 else 0)) dJ13_signum_95d88_8 (sg_ushr hx) ?_
  refine E_lor (x.sign) dJ13_signum_95d88_9 (sg_or) ?_
  refine E_l2i dJ13_signum_95d88_10 ?_
  refine E_iret dJ13_signum_95d88_11 ?_
  exact ⟨rfl, rfl⟩
def cop (m : Int) (l : List Fib) : Bool := l.all (fun x => decide (Int.gcd x.1 m = 1))
def copI (m b : Int) (l : List Fib) : Int := if b = 1 ∧ cop m l = true then 1 else 0
theorem cop_loop {s : Sp} {m : Int} (hr : isSp r) (hs : RepS μ r s) (hok : spOk s) (hm : 2 ≤ m ∧ m ≤ 9) : ∀ (q p : List Fib) (b : Int), b = 0 ∨ b = 1 → p ++ q = s.2.2.2 →
    E G mX8_isCoprimeTo (Zq G mX8_isCoprimeTo (R1 (vi (copI m b q)) (Hp μ))) 0 0 4 [.ref r, vi m, vi b, vi (p.length : Int)] [] (Hp μ) := by
  have hb := hok.2.2.2.2.2.1
  intro q
  induction q with
  | nil =>
    intro p b hbb h1
    have hl : (p.length : Int) = μ r 3 := by rw [hs.2.2.2.1, ← h1]; simp
    have hb2 : p.length ≤ 6 := by rw [← h1] at hb; simp at hb; omega
    refine E_iload_n dX8_isCoprimeTo_4 rfl ?_
    refine E_aload_n dX8_isCoprimeTo_5 rfl ?_
    refine GX8_28 hr.1 dX8_isCoprimeTo_6 ?_
    refine E_icmp_ge 45 dX8_isCoprimeTo_9 (fun h9 => ?_) (fun h9 => ?_)
    · -- 45
      refine E_iload_n dX8_isCoprimeTo_45 rfl ?_
      refine E_zret dX8_isCoprimeTo_46 ?_ (by first | exact Or.inl rfl | exact Or.inr rfl | omega)
      rcases hbb with rfl | rfl <;> exact ⟨by simp [copI, cop], rfl⟩
    · -- 12
      exfalso; omega
  | cons x q ih =>
    intro p b hbb h1
    have hl : (p.length : Int) + 1 + q.length = μ r 3 := by rw [hs.2.2.2.1, ← h1]; simp; omega
    have hb2 : p.length + 1 + q.length ≤ 6 := by rw [← h1] at hb; simp at hb; omega
    have hx := hok.2.2.2.2.2.2 x (by rw [← h1]; simp)
    have hat := hs.2.2.2.2.2 p.length x (by rw [← h1]; simp)
    obtain ⟨x1, x2, x3, x4, -⟩ := id hx
    have hp1 : ((p ++ [x]).length : Int) = (p.length : Int) + 1 := by simp
    have hg := Int.gcd_le_left m (show 0 < x.1 by omega)
    have ih' := fun b hb => ih (p ++ [x]) b hb (by rw [← h1]; simp)
    rw [hp1] at ih'
    have e1 : b = 1 → Int.gcd x.1 m = 1 → copI m b (x :: q) = copI m 1 q := fun h2 h3 => by
      have hc : cop m (x :: q) = cop m q := by simp [cop, h3]
      unfold copI; rw [h2, hc]
    have e0 : ¬ (b = 1 ∧ Int.gcd x.1 m = 1) → copI m b (x :: q) = copI m 0 q := fun h2 => by
      have hc : cop m (x :: q) = true → Int.gcd x.1 m = 1 := fun h3 => by simp only [cop, List.all_cons, Bool.and_eq_true, decide_eq_true_eq] at h3; exact h3.1
      unfold copI
      rw [if_neg (fun h3 => h2 ⟨h3.1, hc h3.2⟩), if_neg (fun h3 => absurd h3.1 (by decide))]
    refine E_iload_n dX8_isCoprimeTo_4 rfl ?_
    refine E_aload_n dX8_isCoprimeTo_5 rfl ?_
    refine GX8_28 hr.1 dX8_isCoprimeTo_6 ?_
    refine E_icmp_ge 45 dX8_isCoprimeTo_9 (fun h9 => ?_) (fun h9 => ?_)
    · -- 45
      exfalso; omega
    · -- 12
      refine E_iload_n dX8_isCoprimeTo_12 rfl ?_
      refine E_if_eq 37 dX8_isCoprimeTo_13 (fun h13 => ?_) (fun h13 => ?_)
      · -- 37
        refine E_iconst dX8_isCoprimeTo_37 ?_
        refine E_istore_n dX8_isCoprimeTo_38 ?_
        refine E_iinc dX8_isCoprimeTo_39 rfl ?_
        refine E_goto 4 dX8_isCoprimeTo_42 ?_
        first | (rw [e1 (by omega) (by omega)]; exact ih' 1 (Or.inr rfl)) | (rw [e0 (by omega)]; exact ih' 0 (Or.inl rfl))
      · -- 16
        refine E_aload_n dX8_isCoprimeTo_16 rfl ?_
        refine GX8_9 hr.1 dX8_isCoprimeTo_17 ?_
        refine E_iload_n dX8_isCoprimeTo_20 rfl ?_
        refine H_iald hr.2.1 dX8_isCoprimeTo_21 ?_
        rw [hat.1]
        refine E_i2l dX8_isCoprimeTo_22 ?_
        refine E_iload_n dX8_isCoprimeTo_23 rfl ?_
        refine E_i2l dX8_isCoprimeTo_24 ?_
        refine E_callSR dX8_isCoprimeTo_25 lkX8_75 (c_gcd (x := x.1) (z := m) (by omega) (by omega)) ?_
        refine E_lconst1 dX8_isCoprimeTo_28 ?_
        refine E_lcmp_ne 37 dX8_isCoprimeTo_29 dX8_isCoprimeTo_30 (fun h29 => ?_) (fun h29 => ?_)
        · -- 37
          refine E_iconst dX8_isCoprimeTo_37 ?_
          refine E_istore_n dX8_isCoprimeTo_38 ?_
          refine E_iinc dX8_isCoprimeTo_39 rfl ?_
          refine E_goto 4 dX8_isCoprimeTo_42 ?_
          first | (rw [e1 (by omega) (by omega)]; exact ih' 1 (Or.inr rfl)) | (rw [e0 (by omega)]; exact ih' 0 (Or.inl rfl))
        · -- 33
          refine E_iconst dX8_isCoprimeTo_33 ?_
          refine E_goto 38 dX8_isCoprimeTo_34 ?_
          refine E_istore_n dX8_isCoprimeTo_38 ?_
          refine E_iinc dX8_isCoprimeTo_39 rfl ?_
          refine E_goto 4 dX8_isCoprimeTo_42 ?_
          first | (rw [e1 (by omega) (by omega)]; exact ih' 1 (Or.inr rfl)) | (rw [e0 (by omega)]; exact ih' 0 (Or.inl rfl))
theorem c_isCoprimeTo {s : Sp} {m : Int} (hr : isSp r) (hs : RepS μ r s) (hok : spOk s) (hm : 2 ≤ m ∧ m ≤ 9) : Ctr G mX8_isCoprimeTo [.ref r, vi m] (Hp μ) (R1 (vi (if cop m s.2.2.2 = true then 1 else 0)) (Hp μ)) := by
  refine Ctr.of ?_
  refine E_iconst dX8_isCoprimeTo_0 ?_
  refine E_istore_n dX8_isCoprimeTo_1 ?_
  refine E_iconst dX8_isCoprimeTo_2 ?_
  refine E_istore_n dX8_isCoprimeTo_3 ?_
  have := cop_loop (G := G) hr hs hok hm s.2.2.2 [] 1 (Or.inr rfl) rfl
  rw [show copI m 1 s.2.2.2 = if cop m s.2.2.2 = true then 1 else 0 by simp [copI]] at this
  exact this
/-- the product of all A -/
def pA : List Fib → Int
  | [] => 1
  | x :: t => x.1 * pA t
theorem pA_app (p q : List Fib) : pA (p ++ q) = pA p * pA q := by
  induction p with
  | nil => simp [pA]
  | cons x t ih => simp [pA, ih, Int.mul_assoc]
theorem pA_rng : ∀ {l : List Fib}, (∀ x ∈ l, fibOk x) → 1 ≤ pA l ∧ pA l ≤ 30 ^ l.length
  | [], _ => by simp [pA]
  | x :: t, h => by
    have h1 := pA_rng (l := t) (fun z hz => h z (List.mem_cons_of_mem _ hz))
    obtain ⟨q1, q2, -⟩ := h x List.mem_cons_self
    simp only [pA, List.length_cons, Int.pow_succ]
    have t1 := Int.mul_le_mul_of_nonneg_left h1.1 (show 0 ≤ x.1 by omega)
    have t2 := Int.mul_le_mul_of_nonneg_left h1.2 (show 0 ≤ x.1 by omega)
    have t3 := Int.mul_le_mul_of_nonneg_right q2 (show 0 ≤ (30 : Int) ^ t.length by omega)
    omega
theorem pA_6 {s : Sp} (hok : spOk s) : 1 ≤ pA s.2.2.2 ∧ pA s.2.2.2 ≤ 729000000 := by
  have h1 := pA_rng hok.2.2.2.2.2.2
  have h2 := hok.2.2.2.2.2.1
  have h3 : (30 : Int) ^ s.2.2.2.length ≤ 30 ^ 6 := by
    have := Nat.pow_le_pow_right (n := 30) (by decide) h2
    exact_mod_cast this
  have h4 : (30 : Int) ^ 6 = 729000000 := by decide
  omega
theorem all_loop {s : Sp} (hr : isSp r) (hs : RepS μ r s) (hok : spOk s) : ∀ (q p : List Fib) (b : Int), p ++ q = s.2.2.2 →
    E G mX8_allA (Zq G mX8_allA (R1 (vl (b * pA q)) (Hp μ))) 0 0 4 [.ref r, vl b, .retAddr 0, vi (p.length : Int)] [] (Hp μ) := by
  have hb := hok.2.2.2.2.2.1
  intro q
  induction q with
  | nil =>
    intro p b h1
    have hl : (p.length : Int) = μ r 3 := by rw [hs.2.2.2.1, ← h1]; simp
    have hb2 : p.length ≤ 6 := by rw [← h1] at hb; simp at hb; omega
    refine E_iload_n dX8_allA_4 rfl ?_
    refine E_aload_n dX8_allA_5 rfl ?_
    refine GX8_28 hr.1 dX8_allA_6 ?_
    refine E_icmp_ge 28 dX8_allA_9 (fun h9 => ?_) (fun h9 => ?_)
    · -- 28
      refine E_lload_n dX8_allA_28 rfl ?_
      refine E_lret dX8_allA_29 ?_
      exact ⟨by simp [pA], rfl⟩
    · -- 12
      exfalso; omega
  | cons x q ih =>
    intro p b h1
    have hl : (p.length : Int) + 1 + q.length = μ r 3 := by rw [hs.2.2.2.1, ← h1]; simp; omega
    have hb2 : p.length + 1 + q.length ≤ 6 := by rw [← h1] at hb; simp at hb; omega
    have hx := hok.2.2.2.2.2.2 x (by rw [← h1]; simp)
    have hat := hs.2.2.2.2.2 p.length x (by rw [← h1]; simp)
    obtain ⟨x1, x2, x3, x4, -⟩ := id hx
    have hp1 : ((p ++ [x]).length : Int) = (p.length : Int) + 1 := by simp
    have ih' := fun b => ih (p ++ [x]) b (by rw [← h1]; simp)
    rw [hp1] at ih'
    refine E_iload_n dX8_allA_4 rfl ?_
    refine E_aload_n dX8_allA_5 rfl ?_
    refine GX8_28 hr.1 dX8_allA_6 ?_
    refine E_icmp_ge 28 dX8_allA_9 (fun h9 => ?_) (fun h9 => ?_)
    · -- 28
      exfalso; omega
    · -- 12
      refine E_lload_n dX8_allA_12 rfl ?_
      refine E_aload_n dX8_allA_13 rfl ?_
      refine GX8_9 hr.1 dX8_allA_14 ?_
      refine E_iload_n dX8_allA_17 rfl ?_
      refine H_iald hr.2.1 dX8_allA_18 ?_
      rw [hat.1]
      refine E_i2l dX8_allA_19 ?_
      refine E_lmul dX8_allA_20 ?_
      refine E_lstore_n dX8_allA_21 ?_
      refine E_iinc dX8_allA_22 rfl ?_
      refine E_goto 4 dX8_allA_25 ?_
      have := ih' (b * x.1)
      rw [Int.mul_assoc] at this
      exact this
theorem c_allA {s : Sp} (hr : isSp r) (hs : RepS μ r s) (hok : spOk s) : Ctr G mX8_allA [.ref r] (Hp μ) (R1 (vl (pA s.2.2.2)) (Hp μ)) := by
  refine Ctr.of ?_
  refine E_lconst1 dX8_allA_0 ?_
  refine E_lstore_n dX8_allA_1 ?_
  refine E_iconst dX8_allA_2 ?_
  refine E_istore_n dX8_allA_3 ?_
  have := all_loop (G := G) hr hs hok s.2.2.2 [] 1 rfl
  rw [Int.one_mul] at this
  exact this
/-- (shift + the sum of all B / A) * the product of all A -/
def bT (a : Int) : List Fib → Int
  | [] => 0
  | x :: t => x.2 * (a / x.1) + bT a t
def eT (s : Sp) : Int := s.2.2.1 * pA s.2.2.2 + bT (pA s.2.2.2) s.2.2.2
theorem eul_loop {s : Sp} (hr : isSp r) (hs : RepS μ r s) (hok : spOk s) : ∀ (q p : List Fib) (b : Int), p ++ q = s.2.2.2 →
    E G mX8_eulerTop (Zq G mX8_eulerTop (R1 (vl (b + bT (pA s.2.2.2) q)) (Hp μ))) 0 0 16 [.ref r, vl (pA s.2.2.2), .retAddr 0, vl b, .retAddr 0, vi (p.length : Int)] [] (Hp μ) := by
  have hb := hok.2.2.2.2.2.1
  have hpa := pA_6 hok
  intro q
  induction q with
  | nil =>
    intro p b h1
    have hl : (p.length : Int) = μ r 3 := by rw [hs.2.2.2.1, ← h1]; simp
    have hb2 : p.length ≤ 6 := by rw [← h1] at hb; simp at hb; omega
    refine E_iload dX8_eulerTop_16 rfl ?_
    refine E_aload_n dX8_eulerTop_18 rfl ?_
    refine GX8_28 hr.1 dX8_eulerTop_19 ?_
    refine E_icmp_ge 55 dX8_eulerTop_22 (fun h22 => ?_) (fun h22 => ?_)
    · -- 55
      refine E_lload_n dX8_eulerTop_55 rfl ?_
      refine E_lret dX8_eulerTop_56 ?_
      exact ⟨by simp [bT], rfl⟩
    · -- 25
      exfalso; omega
  | cons x q ih =>
    intro p b h1
    have hl : (p.length : Int) + 1 + q.length = μ r 3 := by rw [hs.2.2.2.1, ← h1]; simp; omega
    have hb2 : p.length + 1 + q.length ≤ 6 := by rw [← h1] at hb; simp at hb; omega
    have hx := hok.2.2.2.2.2.2 x (by rw [← h1]; simp)
    have hat := hs.2.2.2.2.2 p.length x (by rw [← h1]; simp)
    obtain ⟨x1, x2, x3, x4, -⟩ := id hx
    have hp1 : ((p ++ [x]).length : Int) = (p.length : Int) + 1 := by simp
    have ih' := fun b => ih (p ++ [x]) b (by rw [← h1]; simp)
    rw [hp1] at ih'
    refine E_iload dX8_eulerTop_16 rfl ?_
    refine E_aload_n dX8_eulerTop_18 rfl ?_
    refine GX8_28 hr.1 dX8_eulerTop_19 ?_
    refine E_icmp_ge 55 dX8_eulerTop_22 (fun h22 => ?_) (fun h22 => ?_)
    · -- 55
      exfalso; omega
    · -- 25
      refine E_lload_n dX8_eulerTop_25 rfl ?_
      refine E_aload_n dX8_eulerTop_26 rfl ?_
      refine GX8_15 hr.1 dX8_eulerTop_27 ?_
      refine E_iload dX8_eulerTop_30 rfl ?_
      refine H_iald hr.2.2 dX8_eulerTop_32 ?_
      rw [hat.2]
      refine E_i2l dX8_eulerTop_33 ?_
      refine E_lload_n dX8_eulerTop_34 rfl ?_
      refine E_aload_n dX8_eulerTop_35 rfl ?_
      refine GX8_9 hr.1 dX8_eulerTop_36 ?_
      refine E_iload dX8_eulerTop_39 rfl ?_
      refine H_iald hr.2.1 dX8_eulerTop_41 ?_
      rw [hat.1]
      refine E_i2l dX8_eulerTop_42 ?_
      refine E_callSR dX8_eulerTop_43 lkX8_45 (c_quotient (x := pA s.2.2.2) (z := x.1) (by omega) (by omega)) ?_
      refine E_lmul dX8_eulerTop_46 ?_
      refine E_ladd dX8_eulerTop_47 ?_
      refine E_lstore_n dX8_eulerTop_48 ?_
      refine E_iinc dX8_eulerTop_49 rfl ?_
      refine E_goto 16 dX8_eulerTop_52 ?_
      have := ih' (b + x.2 * (pA s.2.2.2 / x.1))
      rw [Int.add_assoc] at this
      exact this
theorem c_eulerTop {s : Sp} (hr : isSp r) (hs : RepS μ r s) (hok : spOk s) : Ctr G mX8_eulerTop [.ref r] (Hp μ) (R1 (vl (eT s)) (Hp μ)) := by
  refine Ctr.of ?_
  have h1 := hok.2.2.2.1
  have h2 := hok.2.2.2.2.1
  refine E_aload_n dX8_eulerTop_0 rfl ?_
  refine E_callVR dX8_eulerTop_1 lkX8_78 (Hp_get hr.1) (c_allA hr hs hok) ?_
  refine E_lstore_n dX8_eulerTop_4 ?_
  refine E_aload_n dX8_eulerTop_5 rfl ?_
  refine GX8_25 hr.1 dX8_eulerTop_6 ?_
  rw [hs.2.2.1]
  refine E_i2l dX8_eulerTop_9 ?_
  refine E_lload_n dX8_eulerTop_10 rfl ?_
  refine E_lmul dX8_eulerTop_11 ?_
  refine E_lstore_n dX8_eulerTop_12 ?_
  refine E_iconst dX8_eulerTop_13 ?_
  refine E_istore dX8_eulerTop_14 ?_
  exact eul_loop (G := G) hr hs hok s.2.2.2 [] (s.2.2.1 * pA s.2.2.2) rfl
def kT (a : Int) : List Fib → Int
  | [] => 0
  | x :: t => (a - a / x.1) + kT a t
def cT (s : Sp) : Int := (if s.1 = 0 then 2 - 2 * s.2.1 else 2 - s.2.1) * pA s.2.2.2 - kT (pA s.2.2.2) s.2.2.2
theorem chr_loop {s : Sp} (hr : isSp r) (hs : RepS μ r s) (hok : spOk s) : ∀ (q p : List Fib) (b : Int), p ++ q = s.2.2.2 →
    E G mX8_characteristicTop (Zq G mX8_characteristicTop (R1 (vl (b - kT (pA s.2.2.2) q)) (Hp μ))) 0 0 36 [.ref r, vl (pA s.2.2.2), .retAddr 0, vl b, .retAddr 0, vi (p.length : Int)] [] (Hp μ) := by
  have hb := hok.2.2.2.2.2.1
  have hpa := pA_6 hok
  intro q
  induction q with
  | nil =>
    intro p b h1
    have hl : (p.length : Int) = μ r 3 := by rw [hs.2.2.2.1, ← h1]; simp
    have hb2 : p.length ≤ 6 := by rw [← h1] at hb; simp at hb; omega
    refine E_iload dX8_characteristicTop_36 rfl ?_
    refine E_aload_n dX8_characteristicTop_38 rfl ?_
    refine GX8_28 hr.1 dX8_characteristicTop_39 ?_
    refine E_icmp_ge 68 dX8_characteristicTop_42 (fun h42 => ?_) (fun h42 => ?_)
    · -- 68
      refine E_lload_n dX8_characteristicTop_68 rfl ?_
      refine E_lret dX8_characteristicTop_69 ?_
      exact ⟨by simp [kT], rfl⟩
    · -- 45
      exfalso; omega
  | cons x q ih =>
    intro p b h1
    have hl : (p.length : Int) + 1 + q.length = μ r 3 := by rw [hs.2.2.2.1, ← h1]; simp; omega
    have hb2 : p.length + 1 + q.length ≤ 6 := by rw [← h1] at hb; simp at hb; omega
    have hx := hok.2.2.2.2.2.2 x (by rw [← h1]; simp)
    have hat := hs.2.2.2.2.2 p.length x (by rw [← h1]; simp)
    obtain ⟨x1, x2, x3, x4, -⟩ := id hx
    have hp1 : ((p ++ [x]).length : Int) = (p.length : Int) + 1 := by simp
    have ih' := fun b => ih (p ++ [x]) b (by rw [← h1]; simp)
    rw [hp1] at ih'
    refine E_iload dX8_characteristicTop_36 rfl ?_
    refine E_aload_n dX8_characteristicTop_38 rfl ?_
    refine GX8_28 hr.1 dX8_characteristicTop_39 ?_
    refine E_icmp_ge 68 dX8_characteristicTop_42 (fun h42 => ?_) (fun h42 => ?_)
    · -- 68
      exfalso; omega
    · -- 45
      refine E_lload_n dX8_characteristicTop_45 rfl ?_
      refine E_lload_n dX8_characteristicTop_46 rfl ?_
      refine E_lload_n dX8_characteristicTop_47 rfl ?_
      refine E_aload_n dX8_characteristicTop_48 rfl ?_
      refine GX8_9 hr.1 dX8_characteristicTop_49 ?_
      refine E_iload dX8_characteristicTop_52 rfl ?_
      refine H_iald hr.2.1 dX8_characteristicTop_54 ?_
      rw [hat.1]
      refine E_i2l dX8_characteristicTop_55 ?_
      refine E_callSR dX8_characteristicTop_56 lkX8_45 (c_quotient (x := pA s.2.2.2) (z := x.1) (by omega) (by omega)) ?_
      refine E_lsub dX8_characteristicTop_59 ?_
      refine E_lsub dX8_characteristicTop_60 ?_
      refine E_lstore_n dX8_characteristicTop_61 ?_
      refine E_iinc dX8_characteristicTop_62 rfl ?_
      refine E_goto 36 dX8_characteristicTop_65 ?_
      have := ih' (b - (pA s.2.2.2 - pA s.2.2.2 / x.1))
      rw [Int.sub_sub] at this
      exact this
theorem c_characteristicTop {s : Sp} (hr : isSp r) (hs : RepS μ r s) (hok : spOk s) : Ctr G mX8_characteristicTop [.ref r] (Hp μ) (R1 (vl (cT s)) (Hp μ)) := by
  refine Ctr.of ?_
  have h0 := hok.1
  have h1 := hok.2.1
  have h2 := hok.2.2.1
  have e0 := hs.1
  refine E_aload_n dX8_characteristicTop_0 rfl ?_
  refine E_callVR dX8_characteristicTop_1 lkX8_78 (Hp_get hr.1) (c_allA hr hs hok) ?_
  refine E_lstore_n dX8_characteristicTop_4 ?_
  refine E_aload_n dX8_characteristicTop_5 rfl ?_
  refine GX8_18 hr.1 dX8_characteristicTop_6 ?_
  refine E_if_ne 23 dX8_characteristicTop_9 (fun h9 => ?_) (fun h9 => ?_)
  · -- 23
    refine E_iconst dX8_characteristicTop_23 ?_
    refine E_aload_n dX8_characteristicTop_24 rfl ?_
    refine GX8_22 hr.1 dX8_characteristicTop_25 ?_
    refine E_isub dX8_characteristicTop_28 ?_
    rw [hs.2.1]
    refine E_i2l dX8_characteristicTop_29 ?_
    refine E_lload_n dX8_characteristicTop_30 rfl ?_
    refine E_lmul dX8_characteristicTop_31 ?_
    refine E_lstore_n dX8_characteristicTop_32 ?_
    refine E_iconst dX8_characteristicTop_33 ?_
    refine E_istore dX8_characteristicTop_34 ?_
    first | (rw [show cT s = (2 - 2 * s.2.1) * pA s.2.2.2 - kT (pA s.2.2.2) s.2.2.2 by unfold cT; rw [if_pos (by omega)]]; exact chr_loop (G := G) hr hs hok s.2.2.2 [] _ rfl) | (rw [show cT s = (2 - s.2.1) * pA s.2.2.2 - kT (pA s.2.2.2) s.2.2.2 by unfold cT; rw [if_neg (by omega)]]; exact chr_loop (G := G) hr hs hok s.2.2.2 [] _ rfl)
  · -- 12
    refine E_iconst dX8_characteristicTop_12 ?_
    refine E_iconst dX8_characteristicTop_13 ?_
    refine E_aload_n dX8_characteristicTop_14 rfl ?_
    refine GX8_22 hr.1 dX8_characteristicTop_15 ?_
    refine E_imul dX8_characteristicTop_18 ?_
    refine E_isub dX8_characteristicTop_19 ?_
    refine E_goto 29 dX8_characteristicTop_20 ?_
    rw [hs.2.1]
    refine E_i2l dX8_characteristicTop_29 ?_
    refine E_lload_n dX8_characteristicTop_30 rfl ?_
    refine E_lmul dX8_characteristicTop_31 ?_
    refine E_lstore_n dX8_characteristicTop_32 ?_
    refine E_iconst dX8_characteristicTop_33 ?_
    refine E_istore dX8_characteristicTop_34 ?_
    first | (rw [show cT s = (2 - 2 * s.2.1) * pA s.2.2.2 - kT (pA s.2.2.2) s.2.2.2 by unfold cT; rw [if_pos (by omega)]]; exact chr_loop (G := G) hr hs hok s.2.2.2 [] _ rfl) | (rw [show cT s = (2 - s.2.1) * pA s.2.2.2 - kT (pA s.2.2.2) s.2.2.2 by unfold cT; rw [if_neg (by omega)]]; exact chr_loop (G := G) hr hs hok s.2.2.2 [] _ rfl)
theorem c_geometry {s : Sp} (hr : isSp r) (hs : RepS μ r s) (hok : spOk s) (he : -9000000000000 ≤ eT s ∧ eT s ≤ 9000000000000) (hc : -9000000000000 ≤ cT s ∧ cT s ≤ 9000000000000) : Ctr G mX8_geometry [.ref r] (Hp μ) (R1 (vi (1 - (cT s).sign + (if eT s = 0 then 0 else 3))) (Hp μ)) := by
  refine Ctr.of ?_
  refine E_iconst dX8_geometry_0 ?_
  refine E_aload_n dX8_geometry_1 rfl ?_
  refine E_callVR dX8_geometry_2 lkX8_82 (Hp_get hr.1) (c_characteristicTop hr hs hok) ?_
  refine E_callSR dX8_geometry_5 lkX8_85 (c_signum (x := cT s) (by omega)) ?_
  refine E_isub dX8_geometry_8 ?_
  refine E_istore_n dX8_geometry_9 ?_
  refine E_aload_n dX8_geometry_10 rfl ?_
  refine E_callVR dX8_geometry_11 lkX8_91 (Hp_get hr.1) (c_eulerTop hr hs hok) ?_
  refine E_lconst0 dX8_geometry_14 ?_
  refine E_lcmp_ne 23 dX8_geometry_15 dX8_geometry_16 (fun h15 => ?_) (fun h15 => ?_)
  · -- 23
    refine E_iload_n dX8_geometry_23 rfl ?_
    refine E_iconst dX8_geometry_24 ?_
    refine E_iadd dX8_geometry_25 ?_
    refine E_iret dX8_geometry_26 ?_
    first | (rw [if_pos (by omega)]; exact ⟨by rw [Int.add_zero], rfl⟩) | (rw [if_neg (by omega)]; exact ⟨rfl, rfl⟩)
  · -- 19
    refine E_iload_n dX8_geometry_19 rfl ?_
    refine E_goto 26 dX8_geometry_20 ?_
    refine E_iret dX8_geometry_26 ?_
    first | (rw [if_pos (by omega)]; exact ⟨by rw [Int.add_zero], rfl⟩) | (rw [if_neg (by omega)]; exact ⟨rfl, rfl⟩)
end SPACE
