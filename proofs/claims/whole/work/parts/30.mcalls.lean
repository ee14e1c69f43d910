/-! FibredSpacesModel: its actions -/
theorem putAll_one : ∀ (q p : List Fib) (k g z : Int), (∀ x ∈ q, fibOk x) → srt (p ++ q) → putAll (k, g, z, p) q 1 = (k, g, z, p ++ q)
  | [], p, k, g, z, _, _ => by simp [putAll]
  | x :: q, p, k, g, z, hx, hs => by
    obtain ⟨x1, x2, x3, x4, -⟩ := hx x List.mem_cons_self
    have e1 : x.2 * 1 / x.1 = 0 := by rw [Int.mul_one]; exact Int.ediv_eq_zero_of_lt (by omega) (by omega)
    have e2 : x.2 * 1 % x.1 = x.2 := by rw [Int.mul_one]; exact Int.emod_eq_of_lt (by omega) (by omega)
    have e3 : ins x p = p ++ [x] := by
      have := ins_app (x := x) (p := p) (q := []) (fun y hy => by simp at hy) (fun y t e => by
        subst e
        have h1 : ((t ++ [y]) ++ x :: q).Pairwise (fun x y => gtP x y = false) := hs
        have h2 := (List.pairwise_append.mp h1).2.2 y (by simp) x List.mem_cons_self
        exact h2)
      simpa using this
    have e : put (k, g, z, p) x.1 (x.2 * 1) = (k, g, z, p ++ [x]) := by
      simp only [put]
      rw [e1, e2, if_pos (by omega), show ((x.1, x.2) : Fib) = x from rfl, e3, Int.add_zero]
    have := putAll_one q (p ++ [x]) k g z (fun y hy => hx y (List.mem_cons_of_mem _ hy)) (by simpa using hs)
    rw [show putAll (k, g, z, p) (x :: q) 1 = putAll (put (k, g, z, p) x.1 (x.2 * 1)) q 1 from rfl, e, this]
    simp
theorem mulD_one {s : Sp} (hok : spOk s) (hs : srt s.2.2.2) : mulD s 1 = s := by
  unfold mulD
  rw [Int.mul_one, putAll_one s.2.2.2 [] _ _ _ hok.2.2.2.2.2.2 hs]
  rfl
theorem mulD_len {s : Sp} {m : Int} (hok : spOk s) : (mulD s m).2.2.2.length ≤ 6 := by
  have h := putAll_len (m := m) s.2.2.2 (s.1, s.2.1, s.2.2.1 * m, [])
  have := hok.2.2.2.2.2.1
  simp only [List.length_nil] at h
  unfold mulD; omega
theorem mulD_sm {s : Sp} {m : Int} (hok : spOk s) : ∀ y ∈ (mulD s m).2.2.2, smF y := smF_putAll _ (fun x hx => by obtain ⟨w1, w2, -⟩ := hok.2.2.2.2.2.2 x hx; omega) _ (fun y hy => by simp at hy)
theorem cif01 (p : Prop) : 0 ≤ cif p (1 : Int) 0 ∧ cif p (1 : Int) 0 ≤ 1 := by
  by_cases q : p
  · rw [cif_pos q]; omega
  · rw [cif_neg q]; omega
section MCALLS
variable {G : GT} {μ : Mem} {M : HV} {σ : St}
theorem NQ.pre {μ1 : Mem} {R : Int × St} (ho : ∀ q : Nat, q < 203 → μ1 q = μ q) {v : Option Value} {M' : HV} (h : NQ μ1 R v M') : NQ μ R v M' := by
  obtain ⟨h1, μ', h2, h3, h4⟩ := h
  exact ⟨h1, μ', h2, h3, fun q hq => by rw [h4 q hq, ho q hq]⟩
theorem OffB.lo {μ' : Mem} (h : OffB μ μ') : ∀ q : Nat, q < 203 → μ' q = μ q := fun q hq => h.1 q (by omega) (by omega) (by omega)
theorem m_isMirrored {i j : Int} {s t : Sp} (hi : isS i) (hj : isS j) (hs : RepN μ 204 (16 * i) s) (ht : RepN μ 204 (16 * j) t) (hok : spOk s) (hokt : spOk t) : Ctr G mX11_isMirrored [.ref 203, vi i, vi j] (Hp μ) (V1 (vi (cif (mulD s (-1) = t) 1 0)) (fun μ' => RepB μ' (mulD s (-1)) ∧ OffB μ μ')) := by
  refine Ctr.of ?_
  have r := cif01 (mulD s (-1) = t)
  have hr := mulD_rng hok (show -9 ≤ (-1 : Int) ∧ (-1 : Int) ≤ 9 by omega)
  obtain ⟨o0, o1, o2, o3, o4, o5, -⟩ := id hok
  refine E_aload_n dX11_isMirrored_0 rfl ?_
  refine E_iload_n dX11_isMirrored_1 rfl ?_
  refine E_iconst dX11_isMirrored_2 ?_
  refine E_callVV dX11_isMirrored_3 lkX11_160 (Hp_get sk_203) (m_makeTimes (m := -1) hi (by omega) hs hok) ?_
  rintro μ1 ⟨a1, a2⟩
  refine E_aload_n dX11_isMirrored_6 rfl ?_
  refine E_iload_n dX11_isMirrored_7 rfl ?_
  refine E_callVR dX11_isMirrored_8 lkX11_163 (Hp_get sk_203) (m_isMade hj a1 (ht.kept a2.now) (mulD_len hok) hokt (mulD_sm hok) ⟨by omega, by omega, by omega, by omega, by omega, by omega⟩) ?_
  refine E_zret dX11_isMirrored_11 ?_ (by first | exact Or.inl rfl | exact Or.inr rfl | omega)
  exact ⟨rfl, _, rfl, a1, a2⟩
theorem m_mirrors {i : Int} (hi : -2147483648 ≤ i ∧ i < 2147483648) (hM : RepM μ σ) (hok : stOk σ) : Ctr G mX11_mirrors [.ref 203, vi i] (Hp μ) (NQ μ (sMirrors σ i)) := by
  refine Ctr.of ?_
  have hsi := m_isSpace (G := G) (M := Hp μ) hi
  by_cases q1 : isS i
  · rw [show sMirrors σ i = sSettle σ i (mulD (σ.1 i.toNat) (-1)) (cif (mulD (σ.1 i.toNat) (-1) = σ.1 i.toNat) 1 0) from cif_neg (not_not_intro q1)]
    rw [cif_pos q1] at hsi
    have hn := rn_at q1 hM.1
    have ho := ok_at q1 hok.1
    have hr := mulD_rng ho (show -9 ≤ (-1 : Int) ∧ (-1 : Int) ≤ 9 by omega)
    obtain ⟨o0, o1, o2, o3, o4, o5, -⟩ := id ho
    have hl := mulD_len (m := -1) ho
    have fin : ∀ (μ1 : Mem) (x : Int), RepB μ1 (mulD (σ.1 i.toNat) (-1)) → OffB μ μ1 → E G mX11_mirrors (Zq G mX11_mirrors (NQ μ (sSettle σ i (mulD (σ.1 i.toNat) (-1)) x))) 0 0 25 [.ref 203, vi i] [vi x, vi i, .ref 203] (Hp μ1) := by
      intro μ1 x a1 a2
      refine E_callVP dX11_mirrors_25 lkX11_157 (Hp_get sk_203) (m_lays (a := x) q1 (hM.off a2.w) hok a1 (by omega) (by omega) (by omega)) (fun v M' hv => ?_)
      obtain ⟨rfl, -⟩ := id hv
      exact E_iret dX11_mirrors_28 (NQ.pre a2.lo hv)
    by_cases hE : mulD (σ.1 i.toNat) (-1) = σ.1 i.toNat
    · have hmm := m_isMirrored (G := G) q1 q1 hn hn ho ho
      rw [cif_pos hE] at hmm
      rw [cif_pos hE]
      refine E_iload_n dX11_mirrors_0 rfl ?_
      refine E_callSR dX11_mirrors_1 lkX11_147 (hsi) ?_
      refine E_if_ne 9 dX11_mirrors_4 (fun h4 => ?_) (fun h4 => ?_)
      · -- 9
        refine E_aload_n dX11_mirrors_9 rfl ?_
        refine E_iload_n dX11_mirrors_10 rfl ?_
        refine E_aload_n dX11_mirrors_11 rfl ?_
        refine E_iload_n dX11_mirrors_12 rfl ?_
        refine E_iload_n dX11_mirrors_13 rfl ?_
        refine E_callVW dX11_mirrors_14 lkX11_166 (Hp_get sk_203) (hmm) ?_
        rintro μ1 ⟨a1, a2⟩
        refine E_if_eq 24 dX11_mirrors_17 (fun h17 => ?_) (fun h17 => ?_)
        · -- 24
          exact absurd h17 (by decide)
        · -- 20
          refine E_iconst dX11_mirrors_20 ?_
          refine E_goto 25 dX11_mirrors_21 ?_
          exact fin μ1 1 a1 a2
      · -- 7
        exact absurd h4 (by decide)
    · have hmm := m_isMirrored (G := G) q1 q1 hn hn ho ho
      rw [cif_neg hE] at hmm
      rw [cif_neg hE]
      refine E_iload_n dX11_mirrors_0 rfl ?_
      refine E_callSR dX11_mirrors_1 lkX11_147 (hsi) ?_
      refine E_if_ne 9 dX11_mirrors_4 (fun h4 => ?_) (fun h4 => ?_)
      · -- 9
        refine E_aload_n dX11_mirrors_9 rfl ?_
        refine E_iload_n dX11_mirrors_10 rfl ?_
        refine E_aload_n dX11_mirrors_11 rfl ?_
        refine E_iload_n dX11_mirrors_12 rfl ?_
        refine E_iload_n dX11_mirrors_13 rfl ?_
        refine E_callVW dX11_mirrors_14 lkX11_166 (Hp_get sk_203) (hmm) ?_
        rintro μ1 ⟨a1, a2⟩
        refine E_if_eq 24 dX11_mirrors_17 (fun h17 => ?_) (fun h17 => ?_)
        · -- 24
          refine E_iconst dX11_mirrors_24 ?_
          exact fin μ1 0 a1 a2
        · -- 20
          exact absurd rfl h17
      · -- 7
        exact absurd h4 (by decide)
  · rw [show sMirrors σ i = (-1, σ) from cif_pos q1]
    rw [cif_neg q1] at hsi
    refine E_iload_n dX11_mirrors_0 rfl ?_
    refine E_callSR dX11_mirrors_1 lkX11_147 (hsi) ?_
    refine E_if_ne 9 dX11_mirrors_4 (fun h4 => ?_) (fun h4 => ?_)
    · -- 9
      exact absurd rfl h4
    · -- 7
      refine E_iconst dX11_mirrors_7 ?_
      refine E_iret dX11_mirrors_8 ?_
      exact ⟨rfl, _, rfl, hM, fun _ _ => rfl⟩
/-- the end of an action that answers the number of fibres -/
theorem layN {y : MI} {pc : Nat} {ls : List Value} {i : Int} {d : Sp} {μ1 : Mem} (hM : RepM μ σ) (hok : stOk σ) (q1 : isS i) (a1 : RepB μ1 d) (k1 : -2147483648 < d.2.2.1 ∧ d.2.2.1 < 2147483648) (k2 : 0 ≤ d.2.1 ∧ d.2.1 < 1000) (k3 : d.2.2.2.length ≤ 20) (a2 : OffB μ μ1)
    (d1 : decode (iC y) pc = .ok (.aload_n 0, 1)) (d2 : decode (iC y) (pc + 1) = .ok (.iload_n 1, 1)) (d3 : decode (iC y) (pc + 2) = .ok (.aload_n 0, 1)) (d4 : decode (iC y) (pc + 3) = .ok (.getfield 76, 3)) (d6 : decode (iC y) (pc + 6) = .ok (.invokevirtual 157, 3)) (d7 : decode (iC y) (pc + 9) = .ok (.ireturn, 1))
    (l0 : ls[0]? = some (.ref 203) := by rfl) (l1 : ls[1]? = some (vi i) := by rfl) (hy : (iY y).cls = RX11 := by rfl) (hR : LR y mX11_lays := by exact ⟨Nat.le_of_ble_eq_true rfl, Nat.le_of_ble_eq_true rfl⟩) (hr : iR y = some .int := by rfl) (hm : 0 = iM y := by rfl) (hs : 0 = iS y := by rfl) :
    E G y (Zq G y (NQ μ (sSettle σ i d d.2.2.2.length))) 0 0 pc ls [] (Hp μ1) := by
  refine E_aload_n d1 l0 ?_
  refine E_iload_n d2 l1 ?_
  refine E_aload_n d3 l0 ?_
  refine GX11_76 sk_203 d4 ?_ hy
  rw [a1.2.2.2.1]
  refine E_callVP d6 (by rw [hy]; exact lkX11_157) (Hp_get sk_203) (m_lays q1 (hM.off a2.w) hok a1 k1 k2 k3) (fun v M' hv => ?_) rfl rfl hR (Nat.le_of_ble_eq_true rfl) rfl rfl (by omega) (by omega)
  obtain ⟨rfl, -⟩ := id hv
  exact E_iret d7 (NQ.pre a2.lo hv) hr hm hs
theorem m_fibre {i k w : Int} (hi : -2147483648 ≤ i ∧ i < 2147483648) (hk : -2147483648 ≤ k ∧ k < 2147483648) (hw : -2147483648 ≤ w ∧ w < 2147483648) (hM : RepM μ σ) (hok : stOk σ) : Ctr G mX11_fibre [.ref 203, vi i, vi k, vi w] (Hp μ) (NQ μ (aFibre σ i k w, σ)) := by
  refine Ctr.of ?_
  have hsi := m_isSpace (G := G) (M := Hp μ) hi
  by_cases q1 : isS i
  · rw [cif_pos q1] at hsi
    have j1 := q1.1
    have j2 := q1.2
    have hn := rn_at q1 hM.1
    have ho := ok_at q1 hok.1
    have hl6 := ho.2.2.2.2.2.1
    have hin := m_in (G := G) (M := Hp μ) (v := k) (lo := 0) (hi := ((σ.1 i.toNat).2.2.2.length : Int) - 1) (by omega) (by omega) (by omega)
    have hiw := m_in (G := G) (M := Hp μ) (v := w) (lo := 0) (hi := 1) (by omega) (by omega) (by omega)
    by_cases q2 : 0 ≤ k ∧ k ≤ ((σ.1 i.toNat).2.2.2.length : Int) - 1
    · rw [cif_pos q2] at hin
      by_cases q3 : 0 ≤ w ∧ w ≤ 1
      · rw [cif_pos q3] at hiw
        rw [show aFibre σ i k w = _ from cif_pos ⟨⟨q1, q2.1, by omega⟩, q3⟩]
        have hat := hn.2.2.2.2 k.toNat (fibAt (σ.1 i.toNat) k) (by
          unfold fibAt
          rw [List.getD_eq_getElem?_getD, List.getElem?_eq_getElem (by omega)]; rfl)
        rw [show ((k.toNat : Nat) : Int) = k by omega] at hat
        have hv : μ 204 (16 * i + 4 + 2 * k + w) = cif (w = 0) (fibAt (σ.1 i.toNat) k).1 (fibAt (σ.1 i.toNat) k).2 := by
          rcases (show w = 0 ∨ w = 1 by omega) with rfl | rfl
          · rw [cif_pos rfl, Int.add_zero]; exact hat.1
          · rw [cif_neg (by decide)]; exact hat.2
        refine E_iload_n dX11_fibre_0 rfl ?_
        refine E_callSR dX11_fibre_1 lkX11_147 (hsi) ?_
        refine E_if_eq 54 dX11_fibre_4 (fun h4 => ?_) (fun h4 => ?_)
        · -- 54
          first | exact absurd h4 (by decide) | exact absurd h21 (by decide) | exact absurd h31 (by decide)
        · -- 7
          refine E_iload_n dX11_fibre_7 rfl ?_
          refine E_i2l dX11_fibre_8 ?_
          refine E_lconst0 dX11_fibre_9 ?_
          refine E_aload_n dX11_fibre_10 rfl ?_
          refine E_iload_n dX11_fibre_11 rfl ?_
          refine E_callVR dX11_fibre_12 lkX11_100 (Hp_get sk_203) (m_fibres q1 hn) ?_
          refine E_iconst dX11_fibre_15 ?_
          refine E_isub dX11_fibre_16 ?_
          refine E_i2l dX11_fibre_17 ?_
          refine E_callSR dX11_fibre_18 lkX11_63 (hin) ?_
          refine E_if_eq 54 dX11_fibre_21 (fun h21 => ?_) (fun h21 => ?_)
          · -- 54
            first | exact absurd h4 (by decide) | exact absurd h21 (by decide) | exact absurd h31 (by decide)
          · -- 24
            refine E_iload_n dX11_fibre_24 rfl ?_
            refine E_i2l dX11_fibre_25 ?_
            refine E_lconst0 dX11_fibre_26 ?_
            refine E_lconst1 dX11_fibre_27 ?_
            refine E_callSR dX11_fibre_28 lkX11_63 (hiw) ?_
            refine E_if_eq 54 dX11_fibre_31 (fun h31 => ?_) (fun h31 => ?_)
            · -- 54
              first | exact absurd h4 (by decide) | exact absurd h21 (by decide) | exact absurd h31 (by decide)
            · -- 34
              refine E_aload_n dX11_fibre_34 rfl ?_
              refine GX11_7 sk_203 dX11_fibre_35 ?_
              refine E_bipush dX11_fibre_38 ?_
              refine E_iload_n dX11_fibre_40 rfl ?_
              refine E_imul dX11_fibre_41 ?_
              refine E_iconst dX11_fibre_42 ?_
              refine E_iadd dX11_fibre_43 ?_
              refine E_iconst dX11_fibre_44 ?_
              refine E_iload_n dX11_fibre_45 rfl ?_
              refine E_imul dX11_fibre_46 ?_
              refine E_iadd dX11_fibre_47 ?_
              refine E_iload_n dX11_fibre_48 rfl ?_
              refine E_iadd dX11_fibre_49 ?_
              refine H_iald sk_204 dX11_fibre_50 ?_
              rw [hv]
              refine E_goto 55 dX11_fibre_51 ?_
              refine E_iret dX11_fibre_55 ?_
              exact ⟨rfl, _, rfl, hM, fun _ _ => rfl⟩
      · rw [cif_neg q3] at hiw
        rw [show aFibre σ i k w = -1 from cif_neg (fun h => q3 h.2)]
        refine E_iload_n dX11_fibre_0 rfl ?_
        refine E_callSR dX11_fibre_1 lkX11_147 (hsi) ?_
        refine E_if_eq 54 dX11_fibre_4 (fun h4 => ?_) (fun h4 => ?_)
        · -- 54
          refine E_iconst dX11_fibre_54 ?_
          refine E_iret dX11_fibre_55 ?_
          exact ⟨rfl, _, rfl, hM, fun _ _ => rfl⟩
        · -- 7
          refine E_iload_n dX11_fibre_7 rfl ?_
          refine E_i2l dX11_fibre_8 ?_
          refine E_lconst0 dX11_fibre_9 ?_
          refine E_aload_n dX11_fibre_10 rfl ?_
          refine E_iload_n dX11_fibre_11 rfl ?_
          refine E_callVR dX11_fibre_12 lkX11_100 (Hp_get sk_203) (m_fibres q1 hn) ?_
          refine E_iconst dX11_fibre_15 ?_
          refine E_isub dX11_fibre_16 ?_
          refine E_i2l dX11_fibre_17 ?_
          refine E_callSR dX11_fibre_18 lkX11_63 (hin) ?_
          refine E_if_eq 54 dX11_fibre_21 (fun h21 => ?_) (fun h21 => ?_)
          · -- 54
            refine E_iconst dX11_fibre_54 ?_
            refine E_iret dX11_fibre_55 ?_
            exact ⟨rfl, _, rfl, hM, fun _ _ => rfl⟩
          · -- 24
            refine E_iload_n dX11_fibre_24 rfl ?_
            refine E_i2l dX11_fibre_25 ?_
            refine E_lconst0 dX11_fibre_26 ?_
            refine E_lconst1 dX11_fibre_27 ?_
            refine E_callSR dX11_fibre_28 lkX11_63 (hiw) ?_
            refine E_if_eq 54 dX11_fibre_31 (fun h31 => ?_) (fun h31 => ?_)
            · -- 54
              refine E_iconst dX11_fibre_54 ?_
              refine E_iret dX11_fibre_55 ?_
              exact ⟨rfl, _, rfl, hM, fun _ _ => rfl⟩
            · -- 34
              exact absurd rfl h31
    · rw [cif_neg q2] at hin
      rw [show aFibre σ i k w = -1 from cif_neg (fun h => q2 ⟨h.1.2.1, by have := h.1.2.2; omega⟩)]
      refine E_iload_n dX11_fibre_0 rfl ?_
      refine E_callSR dX11_fibre_1 lkX11_147 (hsi) ?_
      refine E_if_eq 54 dX11_fibre_4 (fun h4 => ?_) (fun h4 => ?_)
      · -- 54
        refine E_iconst dX11_fibre_54 ?_
        refine E_iret dX11_fibre_55 ?_
        exact ⟨rfl, _, rfl, hM, fun _ _ => rfl⟩
      · -- 7
        refine E_iload_n dX11_fibre_7 rfl ?_
        refine E_i2l dX11_fibre_8 ?_
        refine E_lconst0 dX11_fibre_9 ?_
        refine E_aload_n dX11_fibre_10 rfl ?_
        refine E_iload_n dX11_fibre_11 rfl ?_
        refine E_callVR dX11_fibre_12 lkX11_100 (Hp_get sk_203) (m_fibres q1 hn) ?_
        refine E_iconst dX11_fibre_15 ?_
        refine E_isub dX11_fibre_16 ?_
        refine E_i2l dX11_fibre_17 ?_
        refine E_callSR dX11_fibre_18 lkX11_63 (hin) ?_
        refine E_if_eq 54 dX11_fibre_21 (fun h21 => ?_) (fun h21 => ?_)
        · -- 54
          refine E_iconst dX11_fibre_54 ?_
          refine E_iret dX11_fibre_55 ?_
          exact ⟨rfl, _, rfl, hM, fun _ _ => rfl⟩
        · -- 24
          exact absurd rfl h21
  · rw [cif_neg q1] at hsi
    rw [show aFibre σ i k w = -1 from cif_neg (fun h => q1 h.1.1)]
    refine E_iload_n dX11_fibre_0 rfl ?_
    refine E_callSR dX11_fibre_1 lkX11_147 (hsi) ?_
    refine E_if_eq 54 dX11_fibre_4 (fun h4 => ?_) (fun h4 => ?_)
    · -- 54
      refine E_iconst dX11_fibre_54 ?_
      refine E_iret dX11_fibre_55 ?_
      exact ⟨rfl, _, rfl, hM, fun _ _ => rfl⟩
    · -- 7
      exact absurd rfl h4
theorem m_fills {i a b : Int} (hi : -2147483648 ≤ i ∧ i < 2147483648) (ha : -2147483648 ≤ a ∧ a < 2147483648) (hb : -2147483648 ≤ b ∧ b < 2147483648) (hM : RepM μ σ) (hG : stG σ) : Ctr G mX11_fills [.ref 203, vi i, vi a, vi b] (Hp μ) (NQ μ (sFills σ i a b)) := by
  refine Ctr.of ?_
  have hok := hG.1
  have hsi := m_isSpace (G := G) (M := Hp μ) hi
  have hia := m_in (G := G) (M := Hp μ) (v := a) (lo := 1) (hi := 30) (by omega) (by omega) (by omega)
  have hib := m_in (G := G) (M := Hp μ) (v := b) (lo := -99) (hi := 99) (by omega) (by omega) (by omega)
  have hco := m_common (G := G) (M := Hp μ) (x := a) (z := b) (by omega) (by omega)
  have bad : ¬ (isS i ∧ 1 ≤ a ∧ a ≤ 30 ∧ -99 ≤ b ∧ b ≤ 99 ∧ Int.gcd a b = 1) → sFills σ i a b = (-1, σ) := fun h => cif_pos h
  by_cases q1 : isS i
  · rw [cif_pos q1] at hsi
    by_cases q2 : 1 ≤ a ∧ a ≤ 30
    · rw [cif_pos q2] at hia
      by_cases q3 : -99 ≤ b ∧ b ≤ 99
      · rw [cif_pos q3] at hib
        have hgb : (Int.gcd a b : Int) ≤ 30 := by have := Int.gcd_le_left (a := a) b (by omega); omega
        by_cases q4 : Int.gcd a b = 1
        · rw [show sFills σ i a b = _ from cif_neg (not_not_intro ⟨q1, q2.1, q2.2, q3.1, q3.2, q4⟩)]
          have hn := rn_at q1 hM.1
          have ho := ok_at q1 hok.1
          have hso := so_at q1 hG.2.1
          have hmk := m_makeTimes (G := G) (m := 1) q1 (by omega) hn ho
          rw [mulD_one ho hso] at hmk
          obtain ⟨o0, o1, o2, o3, o4, o5, o6⟩ := id ho
          have hdv : -99 ≤ b / a ∧ b / a ≤ 99 := ⟨Int.le_ediv_of_mul_le (by omega) (by omega), Int.ediv_le_of_le_mul (by omega) (by omega)⟩
          have hpl := putm_len (d := σ.1 i.toNat) (a := a) (b := b)
          rw [q4] at hco
          refine E_iload_n dX11_fills_0 rfl ?_
          refine E_callSR dX11_fills_1 lkX11_147 (hsi) ?_
          refine E_if_eq 45 dX11_fills_4 (fun h4 => ?_) (fun h4 => ?_)
          · -- 45
            first | exact absurd h4 (by decide) | exact absurd h16 (by decide) | exact absurd h30 (by decide) | exact absurd rfl h41
          · -- 7
            refine E_iload_n dX11_fills_7 rfl ?_
            refine E_i2l dX11_fills_8 ?_
            refine E_lconst1 dX11_fills_9 ?_
            refine E_ldc2 dX11_fills_10 coX11_141 ?_
            refine E_callSR dX11_fills_13 lkX11_63 (hia) ?_
            refine E_if_eq 45 dX11_fills_16 (fun h16 => ?_) (fun h16 => ?_)
            · -- 45
              first | exact absurd h4 (by decide) | exact absurd h16 (by decide) | exact absurd h30 (by decide) | exact absurd rfl h41
            · -- 19
              refine E_iload_n dX11_fills_19 rfl ?_
              refine E_i2l dX11_fills_20 ?_
              refine E_ldc2 dX11_fills_21 coX11_170 ?_
              refine E_ldc2 dX11_fills_24 coX11_172 ?_
              refine E_callSR dX11_fills_27 lkX11_63 (hib) ?_
              refine E_if_eq 45 dX11_fills_30 (fun h30 => ?_) (fun h30 => ?_)
              · -- 45
                first | exact absurd h4 (by decide) | exact absurd h16 (by decide) | exact absurd h30 (by decide) | exact absurd rfl h41
              · -- 33
                refine E_iload_n dX11_fills_33 rfl ?_
                refine E_i2l dX11_fills_34 ?_
                refine E_iload_n dX11_fills_35 rfl ?_
                refine E_i2l dX11_fills_36 ?_
                refine E_callSR dX11_fills_37 lkX11_143 (hco) ?_
                refine E_lconst1 dX11_fills_40 ?_
                refine E_lcmp_eq 47 dX11_fills_41 dX11_fills_42 (fun h41 => ?_) (fun h41 => ?_)
                · -- 47
                  refine E_aload_n dX11_fills_47 rfl ?_
                  refine E_iload_n dX11_fills_48 rfl ?_
                  refine E_iconst dX11_fills_49 ?_
                  refine E_callVV dX11_fills_50 lkX11_160 (Hp_get sk_203) (hmk) ?_
                  rintro μ1 ⟨a1, a2⟩
                  refine E_aload_n dX11_fills_53 rfl ?_
                  refine E_iload_n dX11_fills_54 rfl ?_
                  refine E_iload_n dX11_fills_55 rfl ?_
                  refine E_callVV dX11_fills_56 lkX11_104 (Hp_get sk_203) (m_add (a := a) (b := b) a1 (by omega) (by omega) (fun y hy => smF_of (o6 y hy)) (by omega)) ?_
                  rintro μ2 ⟨g1, g2⟩
                  exact layN hM hok q1 g1 (by simp only [put]; omega) (by simp only [put]; omega) (by omega) (a2.tr g2) dX11_fills_59 dX11_fills_60 dX11_fills_61 dX11_fills_62 dX11_fills_65 dX11_fills_68
                · -- 45
                  first | exact absurd h4 (by decide) | exact absurd h16 (by decide) | exact absurd h30 (by decide) | exact absurd rfl h41
        · rw [bad (fun h => q4 h.2.2.2.2.2)]
          refine E_iload_n dX11_fills_0 rfl ?_
          refine E_callSR dX11_fills_1 lkX11_147 (hsi) ?_
          refine E_if_eq 45 dX11_fills_4 (fun h4 => ?_) (fun h4 => ?_)
          · -- 45
            refine E_iconst dX11_fills_45 ?_
            refine E_iret dX11_fills_46 ?_
            exact ⟨rfl, _, rfl, hM, fun _ _ => rfl⟩
          · -- 7
            refine E_iload_n dX11_fills_7 rfl ?_
            refine E_i2l dX11_fills_8 ?_
            refine E_lconst1 dX11_fills_9 ?_
            refine E_ldc2 dX11_fills_10 coX11_141 ?_
            refine E_callSR dX11_fills_13 lkX11_63 (hia) ?_
            refine E_if_eq 45 dX11_fills_16 (fun h16 => ?_) (fun h16 => ?_)
            · -- 45
              refine E_iconst dX11_fills_45 ?_
              refine E_iret dX11_fills_46 ?_
              exact ⟨rfl, _, rfl, hM, fun _ _ => rfl⟩
            · -- 19
              refine E_iload_n dX11_fills_19 rfl ?_
              refine E_i2l dX11_fills_20 ?_
              refine E_ldc2 dX11_fills_21 coX11_170 ?_
              refine E_ldc2 dX11_fills_24 coX11_172 ?_
              refine E_callSR dX11_fills_27 lkX11_63 (hib) ?_
              refine E_if_eq 45 dX11_fills_30 (fun h30 => ?_) (fun h30 => ?_)
              · -- 45
                refine E_iconst dX11_fills_45 ?_
                refine E_iret dX11_fills_46 ?_
                exact ⟨rfl, _, rfl, hM, fun _ _ => rfl⟩
              · -- 33
                refine E_iload_n dX11_fills_33 rfl ?_
                refine E_i2l dX11_fills_34 ?_
                refine E_iload_n dX11_fills_35 rfl ?_
                refine E_i2l dX11_fills_36 ?_
                refine E_callSR dX11_fills_37 lkX11_143 (hco) ?_
                refine E_lconst1 dX11_fills_40 ?_
                refine E_lcmp_eq 47 dX11_fills_41 dX11_fills_42 (fun h41 => ?_) (fun h41 => ?_)
                · -- 47
                  exfalso; omega
                · -- 45
                  refine E_iconst dX11_fills_45 ?_
                  refine E_iret dX11_fills_46 ?_
                  exact ⟨rfl, _, rfl, hM, fun _ _ => rfl⟩
      · rw [cif_neg q3] at hib
        rw [bad (fun h => q3 ⟨h.2.2.2.1, h.2.2.2.2.1⟩)]
        refine E_iload_n dX11_fills_0 rfl ?_
        refine E_callSR dX11_fills_1 lkX11_147 (hsi) ?_
        refine E_if_eq 45 dX11_fills_4 (fun h4 => ?_) (fun h4 => ?_)
        · -- 45
          refine E_iconst dX11_fills_45 ?_
          refine E_iret dX11_fills_46 ?_
          exact ⟨rfl, _, rfl, hM, fun _ _ => rfl⟩
        · -- 7
          refine E_iload_n dX11_fills_7 rfl ?_
          refine E_i2l dX11_fills_8 ?_
          refine E_lconst1 dX11_fills_9 ?_
          refine E_ldc2 dX11_fills_10 coX11_141 ?_
          refine E_callSR dX11_fills_13 lkX11_63 (hia) ?_
          refine E_if_eq 45 dX11_fills_16 (fun h16 => ?_) (fun h16 => ?_)
          · -- 45
            refine E_iconst dX11_fills_45 ?_
            refine E_iret dX11_fills_46 ?_
            exact ⟨rfl, _, rfl, hM, fun _ _ => rfl⟩
          · -- 19
            refine E_iload_n dX11_fills_19 rfl ?_
            refine E_i2l dX11_fills_20 ?_
            refine E_ldc2 dX11_fills_21 coX11_170 ?_
            refine E_ldc2 dX11_fills_24 coX11_172 ?_
            refine E_callSR dX11_fills_27 lkX11_63 (hib) ?_
            refine E_if_eq 45 dX11_fills_30 (fun h30 => ?_) (fun h30 => ?_)
            · -- 45
              refine E_iconst dX11_fills_45 ?_
              refine E_iret dX11_fills_46 ?_
              exact ⟨rfl, _, rfl, hM, fun _ _ => rfl⟩
            · -- 33
              exact absurd rfl h30
    · rw [cif_neg q2] at hia
      rw [bad (fun h => q2 ⟨h.2.1, h.2.2.1⟩)]
      refine E_iload_n dX11_fills_0 rfl ?_
      refine E_callSR dX11_fills_1 lkX11_147 (hsi) ?_
      refine E_if_eq 45 dX11_fills_4 (fun h4 => ?_) (fun h4 => ?_)
      · -- 45
        refine E_iconst dX11_fills_45 ?_
        refine E_iret dX11_fills_46 ?_
        exact ⟨rfl, _, rfl, hM, fun _ _ => rfl⟩
      · -- 7
        refine E_iload_n dX11_fills_7 rfl ?_
        refine E_i2l dX11_fills_8 ?_
        refine E_lconst1 dX11_fills_9 ?_
        refine E_ldc2 dX11_fills_10 coX11_141 ?_
        refine E_callSR dX11_fills_13 lkX11_63 (hia) ?_
        refine E_if_eq 45 dX11_fills_16 (fun h16 => ?_) (fun h16 => ?_)
        · -- 45
          refine E_iconst dX11_fills_45 ?_
          refine E_iret dX11_fills_46 ?_
          exact ⟨rfl, _, rfl, hM, fun _ _ => rfl⟩
        · -- 19
          exact absurd rfl h16
  · rw [cif_neg q1] at hsi
    rw [bad (fun h => q1 h.1)]
    refine E_iload_n dX11_fills_0 rfl ?_
    refine E_callSR dX11_fills_1 lkX11_147 (hsi) ?_
    refine E_if_eq 45 dX11_fills_4 (fun h4 => ?_) (fun h4 => ?_)
    · -- 45
      refine E_iconst dX11_fills_45 ?_
      refine E_iret dX11_fills_46 ?_
      exact ⟨rfl, _, rfl, hM, fun _ _ => rfl⟩
    · -- 7
      exact absurd rfl h4
theorem free_0 {i m : Int} {s : Sp} (hi : isS i) (hs : RepN μ 204 (16 * i) s) (hok : spOk s) : ∀ (t k : Nat), k + t = s.2.2.2.length →
    E G mX11_isFree (Zq G mX11_isFree (R1 (vi 0) (Hp μ))) 0 0 5 [.ref 203, vi i, vi m, vi 0, vi (k : Int)] [] (Hp μ)
  | 0, k, hk => by
    have := hok.2.2.2.2.2.1
    refine E_iload dX11_isFree_5 rfl ?_
    refine E_aload_n dX11_isFree_7 rfl ?_
    refine E_iload_n dX11_isFree_8 rfl ?_
    refine E_callVR dX11_isFree_9 lkX11_100 (Hp_get sk_203) (m_fibres hi hs) ?_
    refine E_icmp_ge 49 dX11_isFree_12 (fun h12 => ?_) (fun h12 => ?_)
    · -- 49
      refine E_iload_n dX11_isFree_49 rfl ?_
      refine E_zret dX11_isFree_50 ?_ (by first | exact Or.inl rfl | exact Or.inr rfl | omega)
      exact ⟨rfl, rfl⟩
    · -- 15
      exfalso; omega
  | t + 1, k, hk => by
    have := hok.2.2.2.2.2.1
    refine E_iload dX11_isFree_5 rfl ?_
    refine E_aload_n dX11_isFree_7 rfl ?_
    refine E_iload_n dX11_isFree_8 rfl ?_
    refine E_callVR dX11_isFree_9 lkX11_100 (Hp_get sk_203) (m_fibres hi hs) ?_
    refine E_icmp_ge 49 dX11_isFree_12 (fun h12 => ?_) (fun h12 => ?_)
    · -- 49
      exfalso; omega
    · -- 15
      refine E_iload_n dX11_isFree_15 rfl ?_
      refine E_if_eq 41 dX11_isFree_16 (fun h16 => ?_) (fun h16 => ?_)
      · -- 41
        refine E_iconst dX11_isFree_41 ?_
        refine E_istore_n dX11_isFree_42 ?_
        refine E_iinc dX11_isFree_43 rfl ?_
        refine E_goto 5 dX11_isFree_46 ?_
        exact free_0 hi hs hok t (k + 1) (by omega)
      · -- 19
        exact absurd rfl h16
theorem free_1 {i m : Int} {s : Sp} (hi : isS i) (hm : 2 ≤ m ∧ m ≤ 9) (hs : RepN μ 204 (16 * i) s) (hok : spOk s) : ∀ (q p : List Fib), p ++ q = s.2.2.2 →
    E G mX11_isFree (Zq G mX11_isFree (R1 (vi (if cop m q = true then 1 else 0)) (Hp μ))) 0 0 5 [.ref 203, vi i, vi m, vi 1, vi (p.length : Int)] [] (Hp μ) := by
  have hb := hok.2.2.2.2.2.1
  intro q
  induction q with
  | nil =>
    intro p h1
    have hp : p.length = s.2.2.2.length := by rw [← h1]; simp
    refine E_iload dX11_isFree_5 rfl ?_
    refine E_aload_n dX11_isFree_7 rfl ?_
    refine E_iload_n dX11_isFree_8 rfl ?_
    refine E_callVR dX11_isFree_9 lkX11_100 (Hp_get sk_203) (m_fibres hi hs) ?_
    refine E_icmp_ge 49 dX11_isFree_12 (fun h12 => ?_) (fun h12 => ?_)
    · -- 49
      refine E_iload_n dX11_isFree_49 rfl ?_
      refine E_zret dX11_isFree_50 ?_ (by first | exact Or.inl rfl | exact Or.inr rfl | omega)
      exact ⟨rfl, rfl⟩
    · -- 15
      exfalso; omega
  | cons x q ih =>
    intro p h1
    have hp : p.length + 1 + q.length = s.2.2.2.length := by rw [← h1]; simp; omega
    have hat : s.2.2.2[p.length]? = some x := by rw [← h1]; simp
    obtain ⟨x1, x2, x3, x4, -⟩ := hok.2.2.2.2.2.2 x (by rw [← h1]; simp)
    have hgb : (Int.gcd x.1 m : Int) ≤ 30 := by have := Int.gcd_le_left (a := x.1) m (by omega); omega
    have yes := fun (h : Int.gcd x.1 m = 1) => ih (p ++ [x]) (by rw [← h1]; simp)
    have no := free_0 (G := G) (m := m) hi hs hok q.length (p.length + 1) (by omega)
    rw [show ((p ++ [x]).length : Int) = (p.length : Int) + 1 by simp] at yes
    rw [show ((p.length + 1 : Nat) : Int) = (p.length : Int) + 1 by omega] at no
    by_cases hg : Int.gcd x.1 m = 1
    · rw [show cop m (x :: q) = cop m q by simp [cop, hg]]
      refine E_iload dX11_isFree_5 rfl ?_
      refine E_aload_n dX11_isFree_7 rfl ?_
      refine E_iload_n dX11_isFree_8 rfl ?_
      refine E_callVR dX11_isFree_9 lkX11_100 (Hp_get sk_203) (m_fibres hi hs) ?_
      refine E_icmp_ge 49 dX11_isFree_12 (fun h12 => ?_) (fun h12 => ?_)
      · -- 49
        exfalso; omega
      · -- 15
        refine E_iload_n dX11_isFree_15 rfl ?_
        refine E_if_eq 41 dX11_isFree_16 (fun h16 => ?_) (fun h16 => ?_)
        · -- 41
          first | exact absurd h16 (by decide) | (exfalso; omega)
        · -- 19
          refine E_aload_n dX11_isFree_19 rfl ?_
          refine E_iload_n dX11_isFree_20 rfl ?_
          refine E_iload dX11_isFree_21 rfl ?_
          refine E_callVR dX11_isFree_23 lkX11_90 (Hp_get sk_203) (m_a hi hs (by omega) hat) ?_
          refine E_i2l dX11_isFree_26 ?_
          refine E_iload_n dX11_isFree_27 rfl ?_
          refine E_i2l dX11_isFree_28 ?_
          refine E_callSR dX11_isFree_29 lkX11_143 (m_common (x := x.1) (z := m) (by omega) (by omega)) ?_
          refine E_lconst1 dX11_isFree_32 ?_
          refine E_lcmp_ne 41 dX11_isFree_33 dX11_isFree_34 (fun h33 => ?_) (fun h33 => ?_)
          · -- 41
            first | exact absurd h16 (by decide) | (exfalso; omega)
          · -- 37
            refine E_iconst dX11_isFree_37 ?_
            refine E_goto 42 dX11_isFree_38 ?_
            refine E_istore_n dX11_isFree_42 ?_
            refine E_iinc dX11_isFree_43 rfl ?_
            refine E_goto 5 dX11_isFree_46 ?_
            exact yes hg
    · rw [show cop m (x :: q) = false by simp [cop, hg]]
      refine E_iload dX11_isFree_5 rfl ?_
      refine E_aload_n dX11_isFree_7 rfl ?_
      refine E_iload_n dX11_isFree_8 rfl ?_
      refine E_callVR dX11_isFree_9 lkX11_100 (Hp_get sk_203) (m_fibres hi hs) ?_
      refine E_icmp_ge 49 dX11_isFree_12 (fun h12 => ?_) (fun h12 => ?_)
      · -- 49
        exfalso; omega
      · -- 15
        refine E_iload_n dX11_isFree_15 rfl ?_
        refine E_if_eq 41 dX11_isFree_16 (fun h16 => ?_) (fun h16 => ?_)
        · -- 41
          refine E_iconst dX11_isFree_41 ?_
          refine E_istore_n dX11_isFree_42 ?_
          refine E_iinc dX11_isFree_43 rfl ?_
          refine E_goto 5 dX11_isFree_46 ?_
          exact no
        · -- 19
          refine E_aload_n dX11_isFree_19 rfl ?_
          refine E_iload_n dX11_isFree_20 rfl ?_
          refine E_iload dX11_isFree_21 rfl ?_
          refine E_callVR dX11_isFree_23 lkX11_90 (Hp_get sk_203) (m_a hi hs (by omega) hat) ?_
          refine E_i2l dX11_isFree_26 ?_
          refine E_iload_n dX11_isFree_27 rfl ?_
          refine E_i2l dX11_isFree_28 ?_
          refine E_callSR dX11_isFree_29 lkX11_143 (m_common (x := x.1) (z := m) (by omega) (by omega)) ?_
          refine E_lconst1 dX11_isFree_32 ?_
          refine E_lcmp_ne 41 dX11_isFree_33 dX11_isFree_34 (fun h33 => ?_) (fun h33 => ?_)
          · -- 41
            refine E_iconst dX11_isFree_41 ?_
            refine E_istore_n dX11_isFree_42 ?_
            refine E_iinc dX11_isFree_43 rfl ?_
            refine E_goto 5 dX11_isFree_46 ?_
            exact no
          · -- 37
            exfalso; omega
theorem m_isFree {i m : Int} {s : Sp} (hi : isS i) (hm : 2 ≤ m ∧ m ≤ 9) (hs : RepN μ 204 (16 * i) s) (hok : spOk s) : Ctr G mX11_isFree [.ref 203, vi i, vi m] (Hp μ) (R1 (vi (if cop m s.2.2.2 = true then 1 else 0)) (Hp μ)) := by
  refine Ctr.of ?_
  refine E_iconst dX11_isFree_0 ?_
  refine E_istore_n dX11_isFree_1 ?_
  refine E_iconst dX11_isFree_2 ?_
  refine E_istore dX11_isFree_3 ?_
  exact free_1 hi hm hs hok s.2.2.2 [] rfl
theorem m_turnsOn {i m : Int} (hi : -2147483648 ≤ i ∧ i < 2147483648) (hm : -2147483648 ≤ m ∧ m < 2147483648) (hM : RepM μ σ) (hok : stOk σ) : Ctr G mX11_turnsOn [.ref 203, vi i, vi m] (Hp μ) (NQ μ (sTurnsOn σ i m)) := by
  refine Ctr.of ?_
  have hsi := m_isSpace (G := G) (M := Hp μ) hi
  have him := m_in (G := G) (M := Hp μ) (v := m) (lo := 2) (hi := 9) (by omega) (by omega) (by omega)
  by_cases q1 : isS i
  · rw [cif_pos q1] at hsi
    by_cases q2 : 2 ≤ m ∧ m ≤ 9
    · rw [cif_pos q2] at him
      rw [show sTurnsOn σ i m = _ from cif_neg (not_not_intro ⟨q1, q2⟩)]
      have hn := rn_at q1 hM.1
      have ho := ok_at q1 hok.1
      have hfr := m_isFree (G := G) q1 q2 hn ho
      by_cases q3 : cop m (σ.1 i.toNat).2.2.2 = true
      · rw [cif_pos q3]
        rw [if_pos q3] at hfr
        have hr := mulD_rng (m := m) ho (by omega)
        obtain ⟨o0, o1, o2, o3, o4, o5, -⟩ := id ho
        have hl := mulD_len (m := m) ho
        refine E_iload_n dX11_turnsOn_0 rfl ?_
        refine E_callSR dX11_turnsOn_1 lkX11_147 (hsi) ?_
        refine E_if_eq 21 dX11_turnsOn_4 (fun h4 => ?_) (fun h4 => ?_)
        · -- 21
          first | exact absurd h4 (by decide) | exact absurd h18 (by decide)
        · -- 7
          refine E_iload_n dX11_turnsOn_7 rfl ?_
          refine E_i2l dX11_turnsOn_8 ?_
          refine E_ldc2 dX11_turnsOn_9 coX11_174 ?_
          refine E_ldc2 dX11_turnsOn_12 coX11_176 ?_
          refine E_callSR dX11_turnsOn_15 lkX11_63 (him) ?_
          refine E_if_ne 23 dX11_turnsOn_18 (fun h18 => ?_) (fun h18 => ?_)
          · -- 23
            refine E_aload_n dX11_turnsOn_23 rfl ?_
            refine E_iload_n dX11_turnsOn_24 rfl ?_
            refine E_iload_n dX11_turnsOn_25 rfl ?_
            refine E_callVR dX11_turnsOn_26 lkX11_178 (Hp_get sk_203) (hfr) ?_
            refine E_if_ne 35 dX11_turnsOn_29 (fun h29 => ?_) (fun h29 => ?_)
            · -- 35
              refine E_aload_n dX11_turnsOn_35 rfl ?_
              refine E_iload_n dX11_turnsOn_36 rfl ?_
              refine E_iload_n dX11_turnsOn_37 rfl ?_
              refine E_callVV dX11_turnsOn_38 lkX11_160 (Hp_get sk_203) (m_makeTimes (m := m) q1 (by omega) hn ho) ?_
              rintro μ1 ⟨a1, a2⟩
              refine E_aload_n dX11_turnsOn_41 rfl ?_
              refine E_iload_n dX11_turnsOn_42 rfl ?_
              refine E_iconst dX11_turnsOn_43 ?_
              refine E_callVP dX11_turnsOn_44 lkX11_157 (Hp_get sk_203) (m_lays (a := 1) q1 (hM.off a2.w) hok a1 (by omega) (by omega) (by omega)) (fun v M' hv => ?_)
              obtain ⟨rfl, -⟩ := id hv
              exact E_iret dX11_turnsOn_47 (NQ.pre a2.lo hv)
            · -- 32
              exact absurd h29 (by decide)
          · -- 21
            first | exact absurd h4 (by decide) | exact absurd h18 (by decide)
      · rw [cif_neg q3]
        rw [if_neg q3] at hfr
        refine E_iload_n dX11_turnsOn_0 rfl ?_
        refine E_callSR dX11_turnsOn_1 lkX11_147 (hsi) ?_
        refine E_if_eq 21 dX11_turnsOn_4 (fun h4 => ?_) (fun h4 => ?_)
        · -- 21
          first | exact absurd h4 (by decide) | exact absurd h18 (by decide)
        · -- 7
          refine E_iload_n dX11_turnsOn_7 rfl ?_
          refine E_i2l dX11_turnsOn_8 ?_
          refine E_ldc2 dX11_turnsOn_9 coX11_174 ?_
          refine E_ldc2 dX11_turnsOn_12 coX11_176 ?_
          refine E_callSR dX11_turnsOn_15 lkX11_63 (him) ?_
          refine E_if_ne 23 dX11_turnsOn_18 (fun h18 => ?_) (fun h18 => ?_)
          · -- 23
            refine E_aload_n dX11_turnsOn_23 rfl ?_
            refine E_iload_n dX11_turnsOn_24 rfl ?_
            refine E_iload_n dX11_turnsOn_25 rfl ?_
            refine E_callVR dX11_turnsOn_26 lkX11_178 (Hp_get sk_203) (hfr) ?_
            refine E_if_ne 35 dX11_turnsOn_29 (fun h29 => ?_) (fun h29 => ?_)
            · -- 35
              exact absurd rfl h29
            · -- 32
              refine E_bipush dX11_turnsOn_32 ?_
              refine E_iret dX11_turnsOn_34 ?_
              exact ⟨rfl, _, rfl, hM, fun _ _ => rfl⟩
          · -- 21
            first | exact absurd h4 (by decide) | exact absurd h18 (by decide)
    · rw [cif_neg q2] at him
      rw [show sTurnsOn σ i m = (-1, σ) from cif_pos (fun h => q2 h.2)]
      refine E_iload_n dX11_turnsOn_0 rfl ?_
      refine E_callSR dX11_turnsOn_1 lkX11_147 (hsi) ?_
      refine E_if_eq 21 dX11_turnsOn_4 (fun h4 => ?_) (fun h4 => ?_)
      · -- 21
        refine E_iconst dX11_turnsOn_21 ?_
        refine E_iret dX11_turnsOn_22 ?_
        exact ⟨rfl, _, rfl, hM, fun _ _ => rfl⟩
      · -- 7
        refine E_iload_n dX11_turnsOn_7 rfl ?_
        refine E_i2l dX11_turnsOn_8 ?_
        refine E_ldc2 dX11_turnsOn_9 coX11_174 ?_
        refine E_ldc2 dX11_turnsOn_12 coX11_176 ?_
        refine E_callSR dX11_turnsOn_15 lkX11_63 (him) ?_
        refine E_if_ne 23 dX11_turnsOn_18 (fun h18 => ?_) (fun h18 => ?_)
        · -- 23
          exact absurd rfl h18
        · -- 21
          refine E_iconst dX11_turnsOn_21 ?_
          refine E_iret dX11_turnsOn_22 ?_
          exact ⟨rfl, _, rfl, hM, fun _ _ => rfl⟩
  · rw [cif_neg q1] at hsi
    rw [show sTurnsOn σ i m = (-1, σ) from cif_pos (fun h => q1 h.1)]
    refine E_iload_n dX11_turnsOn_0 rfl ?_
    refine E_callSR dX11_turnsOn_1 lkX11_147 (hsi) ?_
    refine E_if_eq 21 dX11_turnsOn_4 (fun h4 => ?_) (fun h4 => ?_)
    · -- 21
      refine E_iconst dX11_turnsOn_21 ?_
      refine E_iret dX11_turnsOn_22 ?_
      exact ⟨rfl, _, rfl, hM, fun _ _ => rfl⟩
    · -- 7
      exact absurd rfl h4
theorem m_like {i j : Int} (hi : -2147483648 ≤ i ∧ i < 2147483648) (hj : -2147483648 ≤ j ∧ j < 2147483648) (hM : RepM μ σ) (hG : stG σ) : Ctr G mX11_like [.ref 203, vi i, vi j] (Hp μ) (NQ μ (aLike σ i j, σ)) := by
  refine Ctr.of ?_
  have hok := hG.1
  have hsi := m_isSpace (G := G) (M := Hp μ) hi
  have hsj := m_isSpace (G := G) (M := Hp μ) hj
  by_cases q1 : isS i
  · rw [cif_pos q1] at hsi
    by_cases q2 : isS j
    · rw [cif_pos q2] at hsj
      rw [show aLike σ i j = _ from cif_neg (not_not_intro ⟨q1, q2⟩)]
      have hn := rn_at q1 hM.1
      have ho := ok_at q1 hok.1
      have hnj := rn_at q2 hM.1
      have hoj := ok_at q2 hok.1
      have hso := so_at q1 hG.2.1
      have hmk := m_makeTimes (G := G) (m := 1) q1 (by omega) hn ho
      rw [mulD_one ho hso] at hmk
      obtain ⟨o0, o1, o2, o3, o4, o5, o6⟩ := id ho
      have fin : ∀ (x : Int) (μ1 : Mem), x = cif (σ.1 i.toNat = σ.1 j.toNat) 1 0 → OffB μ μ1 → E G mX11_like (Zq G mX11_like (NQ μ (cif (σ.1 i.toNat = σ.1 j.toNat) 1 0 + cif (mulD (σ.1 i.toNat) (-1) = σ.1 j.toNat) 2 0, σ))) 0 0 35 [.ref 203, vi i, vi j] [vi x] (Hp μ1) := by
        intro x μ1 hx a2
        have hmm := m_isMirrored (G := G) q1 q2 (hn.kept a2.now) (hnj.kept a2.now) ho hoj
        rw [← hx]
        by_cases hE : mulD (σ.1 i.toNat) (-1) = σ.1 j.toNat
        · rw [cif_pos hE] at hmm ⊢
          refine E_aload_n dX11_like_35 rfl ?_
          refine E_iload_n dX11_like_36 rfl ?_
          refine E_iload_n dX11_like_37 rfl ?_
          refine E_callVW dX11_like_38 lkX11_166 (Hp_get sk_203) (hmm) ?_
          rintro μ2 ⟨b1, b2⟩
          refine E_if_eq 48 dX11_like_41 (fun h41 => ?_) (fun h41 => ?_)
          · -- 48
            exact absurd h41 (by decide)
          · -- 44
            refine E_iconst dX11_like_44 ?_
            refine E_goto 49 dX11_like_45 ?_
            refine E_iadd dX11_like_49 ?_
            refine E_iret dX11_like_50 ?_
            exact ⟨rfl, _, rfl, hM.off (a2.tr b2).w, (a2.tr b2).lo⟩
        · rw [cif_neg hE] at hmm ⊢
          refine E_aload_n dX11_like_35 rfl ?_
          refine E_iload_n dX11_like_36 rfl ?_
          refine E_iload_n dX11_like_37 rfl ?_
          refine E_callVW dX11_like_38 lkX11_166 (Hp_get sk_203) (hmm) ?_
          rintro μ2 ⟨b1, b2⟩
          refine E_if_eq 48 dX11_like_41 (fun h41 => ?_) (fun h41 => ?_)
          · -- 48
            refine E_iconst dX11_like_48 ?_
            refine E_iadd dX11_like_49 ?_
            refine E_iret dX11_like_50 ?_
            exact ⟨rfl, _, rfl, hM.off (a2.tr b2).w, (a2.tr b2).lo⟩
          · -- 44
            exact absurd rfl h41
      by_cases hE : σ.1 i.toNat = σ.1 j.toNat
      · skip
        refine E_iload_n dX11_like_0 rfl ?_
        refine E_callSR dX11_like_1 lkX11_147 (hsi) ?_
        refine E_if_eq 14 dX11_like_4 (fun h4 => ?_) (fun h4 => ?_)
        · -- 14
          first | exact absurd h4 (by decide) | exact absurd h11 (by decide)
        · -- 7
          refine E_iload_n dX11_like_7 rfl ?_
          refine E_callSR dX11_like_8 lkX11_147 (hsj) ?_
          refine E_if_ne 16 dX11_like_11 (fun h11 => ?_) (fun h11 => ?_)
          · -- 16
            refine E_aload_n dX11_like_16 rfl ?_
            refine E_iload_n dX11_like_17 rfl ?_
            refine E_iconst dX11_like_18 ?_
            refine E_callVV dX11_like_19 lkX11_160 (Hp_get sk_203) (hmk) ?_
            rintro μ1 ⟨a1, a2⟩
            refine E_aload_n dX11_like_22 rfl ?_
            refine E_iload_n dX11_like_23 rfl ?_
            refine E_callVR dX11_like_24 lkX11_163 (Hp_get sk_203) (m_isMade q2 a1 (hnj.kept a2.now) o5 hoj (fun y hy => smF_of (o6 y hy)) ⟨by omega, by omega, by omega, by omega, by omega, by omega⟩) ?_
            rw [cif_pos hE]
            refine E_if_eq 34 dX11_like_27 (fun h27 => ?_) (fun h27 => ?_)
            · -- 34
              exact absurd h27 (by decide)
            · -- 30
              refine E_iconst dX11_like_30 ?_
              refine E_goto 35 dX11_like_31 ?_
              have t := fin 1 μ1 (cif_pos hE).symm a2
              rw [cif_pos hE] at t
              exact t
          · -- 14
            first | exact absurd h4 (by decide) | exact absurd h11 (by decide)
      · skip
        refine E_iload_n dX11_like_0 rfl ?_
        refine E_callSR dX11_like_1 lkX11_147 (hsi) ?_
        refine E_if_eq 14 dX11_like_4 (fun h4 => ?_) (fun h4 => ?_)
        · -- 14
          first | exact absurd h4 (by decide) | exact absurd h11 (by decide)
        · -- 7
          refine E_iload_n dX11_like_7 rfl ?_
          refine E_callSR dX11_like_8 lkX11_147 (hsj) ?_
          refine E_if_ne 16 dX11_like_11 (fun h11 => ?_) (fun h11 => ?_)
          · -- 16
            refine E_aload_n dX11_like_16 rfl ?_
            refine E_iload_n dX11_like_17 rfl ?_
            refine E_iconst dX11_like_18 ?_
            refine E_callVV dX11_like_19 lkX11_160 (Hp_get sk_203) (hmk) ?_
            rintro μ1 ⟨a1, a2⟩
            refine E_aload_n dX11_like_22 rfl ?_
            refine E_iload_n dX11_like_23 rfl ?_
            refine E_callVR dX11_like_24 lkX11_163 (Hp_get sk_203) (m_isMade q2 a1 (hnj.kept a2.now) o5 hoj (fun y hy => smF_of (o6 y hy)) ⟨by omega, by omega, by omega, by omega, by omega, by omega⟩) ?_
            rw [cif_neg hE]
            refine E_if_eq 34 dX11_like_27 (fun h27 => ?_) (fun h27 => ?_)
            · -- 34
              refine E_iconst dX11_like_34 ?_
              have t := fin 0 μ1 (cif_neg hE).symm a2
              rw [cif_neg hE] at t
              exact t
            · -- 30
              exact absurd rfl h27
          · -- 14
            first | exact absurd h4 (by decide) | exact absurd h11 (by decide)
    · rw [cif_neg q2] at hsj
      rw [show aLike σ i j = -1 from cif_pos (fun h => q2 h.2)]
      refine E_iload_n dX11_like_0 rfl ?_
      refine E_callSR dX11_like_1 lkX11_147 (hsi) ?_
      refine E_if_eq 14 dX11_like_4 (fun h4 => ?_) (fun h4 => ?_)
      · -- 14
        refine E_iconst dX11_like_14 ?_
        refine E_iret dX11_like_15 ?_
        exact ⟨rfl, _, rfl, hM, fun _ _ => rfl⟩
      · -- 7
        refine E_iload_n dX11_like_7 rfl ?_
        refine E_callSR dX11_like_8 lkX11_147 (hsj) ?_
        refine E_if_ne 16 dX11_like_11 (fun h11 => ?_) (fun h11 => ?_)
        · -- 16
          exact absurd rfl h11
        · -- 14
          refine E_iconst dX11_like_14 ?_
          refine E_iret dX11_like_15 ?_
          exact ⟨rfl, _, rfl, hM, fun _ _ => rfl⟩
  · rw [cif_neg q1] at hsi
    rw [show aLike σ i j = -1 from cif_pos (fun h => q1 h.1)]
    refine E_iload_n dX11_like_0 rfl ?_
    refine E_callSR dX11_like_1 lkX11_147 (hsi) ?_
    refine E_if_eq 14 dX11_like_4 (fun h4 => ?_) (fun h4 => ?_)
    · -- 14
      refine E_iconst dX11_like_14 ?_
      refine E_iret dX11_like_15 ?_
      exact ⟨rfl, _, rfl, hM, fun _ _ => rfl⟩
    · -- 7
      exact absurd rfl h4
end MCALLS
