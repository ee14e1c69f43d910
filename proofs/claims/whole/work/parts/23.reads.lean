/-! FibredSpaces: the calls that only look, observations, images -/
def NOc : Int := -1000000000000000000
noncomputable def aLike (σ : St) (i j : Int) : Int := cif (¬ (isS i ∧ isS j)) (-1) (cif (σ.1 i.toNat = σ.1 j.toNat) 1 0 + cif (mulD (σ.1 i.toNat) (-1) = σ.1 j.toNat) 2 0)
def fibAt (s : Sp) (k : Int) : Fib := s.2.2.2.getD k.toNat (0, 0)
noncomputable def aFibre (σ : St) (i k w : Int) : Int := cif ((isS i ∧ 0 ≤ k ∧ k < (σ.1 i.toNat).2.2.2.length) ∧ 0 ≤ w ∧ w ≤ 1) (cif (w = 0) (fibAt (σ.1 i.toNat) k).1 (fibAt (σ.1 i.toNat) k).2) (-1)
def geoS (s : Sp) : Int := 1 - (cT s).sign + (if eT s = 0 then 0 else 3)
noncomputable def spaceS (s : Sp) (w : Int) : Int := cif (w = 0) s.1 (cif (w = 1) s.2.1 (cif (w = 2) s.2.2.1 (cif (w = 3) s.2.2.2.length (cif (w = 4) (rankC s) (cif (w = 5) (torC s).length (cif (w = 6) (geoS s) NOc))))))
noncomputable def aSpace (σ : St) (i w : Int) : Int := cif (isS i) (spaceS (σ.1 i.toNat) w) NOc
noncomputable def fracS (x z p : Int) : Int := cif (p = 0) (x / (Int.gcd x z : Int)) (z / (Int.gcd x z : Int))
noncomputable def aEuler (σ : St) (i p : Int) : Int := cif (isS i ∧ 0 ≤ p ∧ p ≤ 1) (fracS (-(eT (σ.1 i.toNat))) (pA (σ.1 i.toNat).2.2.2) p) NOc
noncomputable def aOver (σ : St) (i p : Int) : Int := cif (isS i ∧ 0 ≤ p ∧ p ≤ 1) (fracS (cT (σ.1 i.toNat)) (pA (σ.1 i.toNat).2.2.2) p) NOc
noncomputable def aTorsion (σ : St) (i k : Int) : Int := cif (isS i ∧ -1 ≤ k) (cif (k = -1) ((if rankC (σ.1 i.toNat) = 0 then 1 else 0) * prI (torC (σ.1 i.toNat))) (cif (k < (torC (σ.1 i.toNat)).length) ((torC (σ.1 i.toNat)).getD k.toNat 0) (-9))) (-1)
noncomputable def mapS (s : Sp) (m : Int) : Int := mapC (rankC s) (torC s) m
noncomputable def aMaps (σ : St) (i m : Int) : Int := cif (isS i ∧ 2 ≤ m ∧ m ≤ 12) (mapS (σ.1 i.toNat) m) (-1)
noncomputable def aThrees (σ : St) (i : Int) : Int := cif (isS i) (threeS (σ.1 i.toNat)) (-1)
noncomputable def lensS (s : Sp) (w : Int) : Int := cif (w = 0) ((lenA s * lenD s + lenB s * lenC s).natAbs : Int) (lensQ4 (lenA s) (lenB s) (lenC s) (lenD s))
noncomputable def aLens (σ : St) (i w : Int) : Int := cif (isS i ∧ 0 ≤ w ∧ w ≤ 1) (cif ((σ.1 i.toNat).1 = 0 ∧ (σ.1 i.toNat).2.1 = 0 ∧ (σ.1 i.toNat).2.2.2.length ≤ 2) (lensS (σ.1 i.toNat) w) (-2)) (-1)
noncomputable def sSees (σ : St) (m v : Int) : Int × St := cif (¬ ((2 ≤ m ∧ m ≤ 12) ∧ 0 ≤ v)) (-1, σ) (cif (6 ≤ σ.2.2.2.2.length) (-3, σ) ((σ.2.2.2.2.length : Int) + 1, σ.1, σ.2.1, σ.2.2.1, σ.2.2.2.1, σ.2.2.2.2 ++ [(m, v)]))
def sForget (σ : St) : Int × St := (σ.2.2.2.2.length, σ.1, σ.2.1, σ.2.2.1, σ.2.2.2.1, [])
noncomputable def sKeep (σ : St) (k : Int) : Int × St := cif (0 ≤ k ∧ k < 2) (sumF σ.1 6, σ.1, σ.2.1, (fun j => if j = k.toNat then some σ.1 else σ.2.2.1 j), σ.2.2.2.1, σ.2.2.2.2) (-1, σ)
noncomputable def sBack (σ : St) (k : Int) : Int × St := cif (0 ≤ k ∧ k < 2) (match σ.2.2.1 k.toNat with
  | none => (-2, σ)
  | some g => (sumF g 6, g, [], σ.2.2.1, σ.2.2.2.1, σ.2.2.2.2)) (-1, σ)
noncomputable def aCount (σ : St) (w : Int) : Int := cif (w = 0) (sumF σ.1 6) (cif (w = 1) σ.2.2.2.2.length (cif (w = 2) σ.2.2.2.1.length (cif (w = 3) σ.2.1.length (-1))))
section READS
variable {G : GT} {μ : Mem} {M : HV} {σ : St}
theorem cT_rng {s : Sp} (hok : spOk s) : -800000000000 ≤ cT s ∧ cT s ≤ 800000000000 := by
  have h1 := pA_6 hok
  have a0 := hok.1
  have a1 := hok.2.1
  have a2 := hok.2.2.1
  have a5 := hok.2.2.2.2.2.1
  have hk : ∀ l : List Fib, (∀ x ∈ l, fibOk x) → 0 ≤ kT (pA s.2.2.2) l ∧ kT (pA s.2.2.2) l ≤ pA s.2.2.2 * l.length := by
    intro l
    induction l with
    | nil => intro _; simp [kT]
    | cons x t ih =>
      intro h
      have h2 := ih (fun z hz => h z (List.mem_cons_of_mem _ hz))
      obtain ⟨q1, q2, -⟩ := h x List.mem_cons_self
      have t1 := Int.ediv_nonneg (show 0 ≤ pA s.2.2.2 by omega) (show 0 ≤ x.1 by omega)
      have t2 := Int.ediv_le_self (a := pA s.2.2.2) x.1 (by omega)
      have t5 : pA s.2.2.2 * ((t.length + 1 : Nat) : Int) = pA s.2.2.2 * t.length + pA s.2.2.2 := by rw [Int.natCast_add, Int.mul_add]; simp
      simp only [kT, List.length_cons]
      omega
  have hk2 := hk s.2.2.2 hok.2.2.2.2.2.2
  have h3 : pA s.2.2.2 * s.2.2.2.length ≤ pA s.2.2.2 * 6 := Int.mul_le_mul_of_nonneg_left (by omega) (by omega)
  unfold cT
  have hx : -6 ≤ (if s.1 = 0 then 2 - 2 * s.2.1 else 2 - s.2.1) ∧ (if s.1 = 0 then 2 - 2 * s.2.1 else 2 - s.2.1) ≤ 2 := by split <;> omega
  generalize (if s.1 = 0 then 2 - 2 * s.2.1 else 2 - s.2.1) = x at hx ⊢
  have t1 := Int.mul_le_mul_of_nonneg_right hx.1 (show 0 ≤ pA s.2.2.2 by omega)
  have t2 := Int.mul_le_mul_of_nonneg_right hx.2 (show 0 ≤ pA s.2.2.2 by omega)
  omega
theorem c_like {i j : Int} (hi : -2147483648 ≤ i ∧ i < 2147483648) (hj : -2147483648 ≤ j ∧ j < 2147483648) (hC : RepC μ σ) (hok : stOk σ) : Ctr G mX10_like [.ref 0, vi i, vi j] (Hp μ) (CQ μ (aLike σ i j, σ)) := by
  refine Ctr.of ?_
  have hsi := c_isSpace (G := G) (M := Hp μ) hi
  have hsj := c_isSpace (G := G) (M := Hp μ) hj
  have bad : ¬ (isS i ∧ isS j) → aLike σ i j = -1 := fun h => cif_pos h
  by_cases q1 : isS i
  · rw [cif_pos q1] at hsi
    by_cases q2 : isS j
    · rw [cif_pos q2] at hsj
      rw [show aLike σ i j = _ from cif_neg (not_not_intro ⟨q1, q2⟩)]
      have hf := isSp_sh q1
      have hg := isSp_sh q2
      have l2 := at_lt q1
      have l3 := at_lt q2
      have j1 := q1.1
      have j2 := q1.2
      have k1 := q2.1
      have k2 := q2.2
      have hs := rep_at q1 hC.1
      have ht := rep_at q2 hC.1
      have ho := ok_at q1 hok.1
      have hp := ok_at q2 hok.1
      have hr := mulD_rng ho (show -9 ≤ (-1 : Int) ∧ (-1 : Int) ≤ 9 by omega)
      have hl := putAll_len (m := -1) (σ.1 i.toNat).2.2.2 ((σ.1 i.toNat).1, (σ.1 i.toNat).2.1, (σ.1 i.toNat).2.2.1 * (-1), [])
      have hl2 : (mulD (σ.1 i.toNat) (-1)).2.2.2.length ≤ 6 := by have := ho.2.2.2.2.2.1; simp only [List.length_nil] at hl; unfold mulD; omega
      have hsm1 : ∀ x ∈ (σ.1 i.toNat).2.2.2, 1 ≤ x.1 ∧ x.1 ≤ 1000 := fun x hx => by obtain ⟨w1, w2, -⟩ := ho.2.2.2.2.2.2 x hx; omega
      have hsm : ∀ y ∈ (mulD (σ.1 i.toNat) (-1)).2.2.2, smF y := smF_putAll _ hsm1 _ (fun y hy => by simp at hy)
      have o0 := ho.1
      have o1 := ho.2.1
      have o2 := ho.2.2.1
      have o3 := ho.2.2.2.1
      have o4 := ho.2.2.2.2.1
      have p0 := hp.1
      have p1 := hp.2.1
      have p2 := hp.2.2.1
      have p3 := hp.2.2.2.1
      have p4 := hp.2.2.2.2.1
      have sm2 : ∀ y ∈ (σ.1 i.toNat).2.2.2, smF y := fun y hy => smF_of (ho.2.2.2.2.2.2 y hy)
      have sm3 : ∀ y ∈ (σ.1 j.toNat).2.2.2, smF y := fun y hy => smF_of (hp.2.2.2.2.2.2 y hy)
      generalize hm1 : mulD (σ.1 i.toNat) (-1) = dm at hr hl2 hsm ⊢
      have fin : ∀ (x : Int) (μ1 : Mem), (x = cif (σ.1 i.toNat = σ.1 j.toNat) 1 0) → RepD μ1 150 dm → Off 150 3 μ μ1 → E G mX10_like (Zq G mX10_like (CQ μ (cif (σ.1 i.toNat = σ.1 j.toNat) 1 0 + cif (dm = σ.1 j.toNat) 2 0, σ))) 0 0 63 [.ref 0, vi i, vi j, vi x, .retAddr 0] [] (Hp μ1) := by
        intro x μ1 hx a1 a2
        have hsame := c_sameAs (G := G) isSp_150 hg (a1.s hl2) (ht.off a2 (by omega)) hl2 hp.2.2.2.2.2.1 hsm sm3 ⟨by omega, by omega, by omega, by omega, by omega, by omega⟩ ⟨by omega, by omega, by omega, by omega, by omega, by omega⟩
        rw [← hx]
        by_cases hE : dm = σ.1 j.toNat
        · rw [if_pos hE] at hsame
          rw [cif_pos hE]
          refine E_aload_n dX10_like_63 rfl ?_
          refine GX10_48 sk_0 dX10_like_64 ?_
          refine E_aload_n dX10_like_67 rfl ?_
          refine GX10_10 sk_0 dX10_like_68 ?_
          refine GX10_104 sk_1 dX10_like_71 ?_
          refine E_iload_n dX10_like_74 rfl ?_
          refine H_aald4 sk_2 dX10_like_75 (sp_at q2) ?_
          refine E_callVR dX10_like_76 lkX10_112 (Hp_get sk_150) (hsame) ?_
          refine E_if_eq 86 dX10_like_79 (fun h79 => ?_) (fun h79 => ?_)
          · -- 86
            exact absurd h79 (by decide)
          · -- 82
            refine E_iconst dX10_like_82 ?_
            refine E_goto 87 dX10_like_83 ?_
            refine E_istore dX10_like_87 ?_
            refine E_iload_n dX10_like_89 rfl ?_
            refine E_iload dX10_like_90 rfl ?_
            refine E_iadd dX10_like_92 ?_
            refine E_iret dX10_like_93 ?_
            exact ⟨rfl, _, rfl, hC.off a2 (by omega), fun q hq => a2 q (by omega)⟩
        · rw [if_neg hE] at hsame
          rw [cif_neg hE]
          refine E_aload_n dX10_like_63 rfl ?_
          refine GX10_48 sk_0 dX10_like_64 ?_
          refine E_aload_n dX10_like_67 rfl ?_
          refine GX10_10 sk_0 dX10_like_68 ?_
          refine GX10_104 sk_1 dX10_like_71 ?_
          refine E_iload_n dX10_like_74 rfl ?_
          refine H_aald4 sk_2 dX10_like_75 (sp_at q2) ?_
          refine E_callVR dX10_like_76 lkX10_112 (Hp_get sk_150) (hsame) ?_
          refine E_if_eq 86 dX10_like_79 (fun h79 => ?_) (fun h79 => ?_)
          · -- 86
            refine E_iconst dX10_like_86 ?_
            refine E_istore dX10_like_87 ?_
            refine E_iload_n dX10_like_89 rfl ?_
            refine E_iload dX10_like_90 rfl ?_
            refine E_iadd dX10_like_92 ?_
            refine E_iret dX10_like_93 ?_
            exact ⟨rfl, _, rfl, hC.off a2 (by omega), fun q hq => a2 q (by omega)⟩
          · -- 82
            exact absurd rfl h79
      refine E_iload_n dX10_like_0 rfl ?_
      refine E_callSR dX10_like_1 lkX10_92 (hsi) ?_
      refine E_if_eq 14 dX10_like_4 (fun h4 => ?_) (fun h4 => ?_)
      · -- 14
        first | exact absurd h4 (by decide) | exact absurd h11 (by decide)
      · -- 7
        refine E_iload_n dX10_like_7 rfl ?_
        refine E_callSR dX10_like_8 lkX10_92 (hsj) ?_
        refine E_if_ne 16 dX10_like_11 (fun h11 => ?_) (fun h11 => ?_)
        · -- 16
          refine E_aload_n dX10_like_16 rfl ?_
          refine GX10_48 sk_0 dX10_like_17 ?_
          refine E_aload_n dX10_like_20 rfl ?_
          refine GX10_10 sk_0 dX10_like_21 ?_
          refine GX10_104 sk_1 dX10_like_24 ?_
          refine E_iload_n dX10_like_27 rfl ?_
          refine H_aald4 sk_2 dX10_like_28 (sp_at q1) ?_
          refine E_iconst dX10_like_29 ?_
          refine E_callVV dX10_like_30 lkX10_108 (Hp_get sk_150) (c_becomeMultiple (m := -1) isSp_150 hf (by omega) (by omega) hs ho) ?_
          rintro μ1 ⟨a1, a2⟩
          have a1' : RepD μ1 150 dm := by rw [← hm1]; exact a1
          refine E_aload_n dX10_like_33 rfl ?_
          refine GX10_10 sk_0 dX10_like_34 ?_
          refine GX10_104 sk_1 dX10_like_37 ?_
          refine E_iload_n dX10_like_40 rfl ?_
          refine H_aald4 sk_2 dX10_like_41 (sp_at q1) ?_
          refine E_aload_n dX10_like_42 rfl ?_
          refine GX10_10 sk_0 dX10_like_43 ?_
          refine GX10_104 sk_1 dX10_like_46 ?_
          refine E_iload_n dX10_like_49 rfl ?_
          refine H_aald4 sk_2 dX10_like_50 (sp_at q2) ?_
          refine E_callVR dX10_like_51 lkX10_112 (Hp_get hf.1) (c_sameAs hf hg (hs.off a2 (by omega)) (ht.off a2 (by omega)) ho.2.2.2.2.2.1 hp.2.2.2.2.2.1 sm2 sm3 ⟨by omega, by omega, by omega, by omega, by omega, by omega⟩ ⟨by omega, by omega, by omega, by omega, by omega, by omega⟩) ?_
          by_cases hE : σ.1 i.toNat = σ.1 j.toNat
          · rw [if_pos hE]
            refine E_if_eq 61 dX10_like_54 (fun q => absurd q (by decide)) (fun q => ?_)
            refine E_iconst dX10_like_57 ?_
            refine E_goto 62 dX10_like_58 ?_
            refine E_istore_n dX10_like_62 ?_
            exact fin 1 μ1 (cif_pos hE).symm a1' a2
          · rw [if_neg hE]
            refine E_if_eq 61 dX10_like_54 (fun q => ?_) (fun q => absurd rfl q)
            refine E_iconst dX10_like_61 ?_
            refine E_istore_n dX10_like_62 ?_
            exact fin 0 μ1 (cif_neg hE).symm a1' a2
          skip
        · -- 14
          first | exact absurd h4 (by decide) | exact absurd h11 (by decide)
    · rw [bad (fun h => q2 h.2)]
      rw [cif_neg q2] at hsj
      refine E_iload_n dX10_like_0 rfl ?_
      refine E_callSR dX10_like_1 lkX10_92 (hsi) ?_
      refine E_if_eq 14 dX10_like_4 (fun h4 => ?_) (fun h4 => ?_)
      · -- 14
        refine E_iconst dX10_like_14 ?_
        refine E_iret dX10_like_15 ?_
        exact ⟨rfl, _, rfl, hC, fun _ _ => rfl⟩
      · -- 7
        refine E_iload_n dX10_like_7 rfl ?_
        refine E_callSR dX10_like_8 lkX10_92 (hsj) ?_
        refine E_if_ne 16 dX10_like_11 (fun h11 => ?_) (fun h11 => ?_)
        · -- 16
          exact absurd rfl h11
        · -- 14
          refine E_iconst dX10_like_14 ?_
          refine E_iret dX10_like_15 ?_
          exact ⟨rfl, _, rfl, hC, fun _ _ => rfl⟩
  · rw [bad (fun h => q1 h.1)]
    rw [cif_neg q1] at hsi
    refine E_iload_n dX10_like_0 rfl ?_
    refine E_callSR dX10_like_1 lkX10_92 (hsi) ?_
    refine E_if_eq 14 dX10_like_4 (fun h4 => ?_) (fun h4 => ?_)
    · -- 14
      refine E_iconst dX10_like_14 ?_
      refine E_iret dX10_like_15 ?_
      exact ⟨rfl, _, rfl, hC, fun _ _ => rfl⟩
    · -- 7
      exact absurd rfl h4
theorem c_fibre {i k w : Int} (hi : -2147483648 ≤ i ∧ i < 2147483648) (hk : -2147483648 ≤ k ∧ k < 2147483648) (hw : -2147483648 ≤ w ∧ w < 2147483648) (hC : RepC μ σ) (hok : stOk σ) : Ctr G mX10_fibre [.ref 0, vi i, vi k, vi w] (Hp μ) (CQ μ (aFibre σ i k w, σ)) := by
  refine Ctr.of ?_
  have hfi := c_isFibre (G := G) hi hk hC hok
  by_cases q : isS i ∧ 0 ≤ k ∧ k < (σ.1 i.toNat).2.2.2.length
  · rw [cif_pos q] at hfi
    have q1 := q.1
    have hf := isSp_sh q1
    have j1 := q1.1
    have j2 := q1.2
    have hs := rep_at q1 hC.1
    have ho := ok_at q1 hok.1
    have hl6 := ho.2.2.2.2.2.1
    have hat := hs.2.2.2.2.2 k.toNat (fibAt (σ.1 i.toNat) k) (by
      unfold fibAt
      rw [List.getD_eq_getElem?_getD, List.getElem?_eq_getElem (by omega)]; rfl)
    rw [show ((k.toNat : Nat) : Int) = k by omega] at hat
    by_cases q2 : 0 ≤ w ∧ w ≤ 1
    · rw [show aFibre σ i k w = _ from cif_pos ⟨q, q2⟩]
      rcases (show w = 0 ∨ w = 1 by omega) with rfl | rfl
      · rw [cif_pos rfl]
        refine E_aload_n dX10_fibre_0 rfl ?_
        refine E_iload_n dX10_fibre_1 rfl ?_
        refine E_iload_n dX10_fibre_2 rfl ?_
        refine E_callVR dX10_fibre_3 lkX10_137 (Hp_get sk_0) (hfi) ?_
        refine E_if_eq 18 dX10_fibre_6 (fun h6 => ?_) (fun h6 => ?_)
        · -- 18
          first | exact absurd h6 (by decide) | (exfalso; omega)
        · -- 9
          refine E_iload_n dX10_fibre_9 rfl ?_
          refine E_if_lt 18 dX10_fibre_10 (fun h10 => ?_) (fun h10 => ?_)
          · -- 18
            first | exact absurd h6 (by decide) | (exfalso; omega)
          · -- 13
            refine E_iload_n dX10_fibre_13 rfl ?_
            refine E_iconst dX10_fibre_14 ?_
            refine E_icmp_le 20 dX10_fibre_15 (fun h15 => ?_) (fun h15 => ?_)
            · -- 20
              refine E_iload_n dX10_fibre_20 rfl ?_
              refine E_if_ne 41 dX10_fibre_21 (fun h21 => ?_) (fun h21 => ?_)
              · -- 41
                exact absurd rfl h21
              · -- 24
                refine E_aload_n dX10_fibre_24 rfl ?_
                refine GX10_10 sk_0 dX10_fibre_25 ?_
                refine GX10_104 sk_1 dX10_fibre_28 ?_
                refine E_iload_n dX10_fibre_31 rfl ?_
                refine H_aald4 sk_2 dX10_fibre_32 (sp_at q1) ?_
                refine GX10_183 hf.1 dX10_fibre_33 ?_
                refine E_iload_n dX10_fibre_36 rfl ?_
                refine H_iald hf.2.1 dX10_fibre_37 ?_
                rw [hat.1]
                refine E_goto 55 dX10_fibre_38 ?_
                refine E_iret dX10_fibre_55 ?_
                exact ⟨rfl, _, rfl, hC, fun _ _ => rfl⟩
            · -- 18
              first | exact absurd h6 (by decide) | (exfalso; omega)
      · rw [cif_neg (show ¬ (1 : Int) = 0 by decide)]
        refine E_aload_n dX10_fibre_0 rfl ?_
        refine E_iload_n dX10_fibre_1 rfl ?_
        refine E_iload_n dX10_fibre_2 rfl ?_
        refine E_callVR dX10_fibre_3 lkX10_137 (Hp_get sk_0) (hfi) ?_
        refine E_if_eq 18 dX10_fibre_6 (fun h6 => ?_) (fun h6 => ?_)
        · -- 18
          first | exact absurd h6 (by decide) | (exfalso; omega)
        · -- 9
          refine E_iload_n dX10_fibre_9 rfl ?_
          refine E_if_lt 18 dX10_fibre_10 (fun h10 => ?_) (fun h10 => ?_)
          · -- 18
            first | exact absurd h6 (by decide) | (exfalso; omega)
          · -- 13
            refine E_iload_n dX10_fibre_13 rfl ?_
            refine E_iconst dX10_fibre_14 ?_
            refine E_icmp_le 20 dX10_fibre_15 (fun h15 => ?_) (fun h15 => ?_)
            · -- 20
              refine E_iload_n dX10_fibre_20 rfl ?_
              refine E_if_ne 41 dX10_fibre_21 (fun h21 => ?_) (fun h21 => ?_)
              · -- 41
                refine E_aload_n dX10_fibre_41 rfl ?_
                refine GX10_10 sk_0 dX10_fibre_42 ?_
                refine GX10_104 sk_1 dX10_fibre_45 ?_
                refine E_iload_n dX10_fibre_48 rfl ?_
                refine H_aald4 sk_2 dX10_fibre_49 (sp_at q1) ?_
                refine GX10_187 hf.1 dX10_fibre_50 ?_
                refine E_iload_n dX10_fibre_53 rfl ?_
                refine H_iald hf.2.2 dX10_fibre_54 ?_
                rw [hat.2]
                refine E_iret dX10_fibre_55 ?_
                exact ⟨rfl, _, rfl, hC, fun _ _ => rfl⟩
              · -- 24
                exact absurd h21 (by decide)
            · -- 18
              first | exact absurd h6 (by decide) | (exfalso; omega)
    · rw [show aFibre σ i k w = -1 from cif_neg (fun h => q2 h.2)]
      refine E_aload_n dX10_fibre_0 rfl ?_
      refine E_iload_n dX10_fibre_1 rfl ?_
      refine E_iload_n dX10_fibre_2 rfl ?_
      refine E_callVR dX10_fibre_3 lkX10_137 (Hp_get sk_0) (hfi) ?_
      refine E_if_eq 18 dX10_fibre_6 (fun h6 => ?_) (fun h6 => ?_)
      · -- 18
        refine E_iconst dX10_fibre_18 ?_
        refine E_iret dX10_fibre_19 ?_
        exact ⟨rfl, _, rfl, hC, fun _ _ => rfl⟩
      · -- 9
        refine E_iload_n dX10_fibre_9 rfl ?_
        refine E_if_lt 18 dX10_fibre_10 (fun h10 => ?_) (fun h10 => ?_)
        · -- 18
          refine E_iconst dX10_fibre_18 ?_
          refine E_iret dX10_fibre_19 ?_
          exact ⟨rfl, _, rfl, hC, fun _ _ => rfl⟩
        · -- 13
          refine E_iload_n dX10_fibre_13 rfl ?_
          refine E_iconst dX10_fibre_14 ?_
          refine E_icmp_le 20 dX10_fibre_15 (fun h15 => ?_) (fun h15 => ?_)
          · -- 20
            exfalso; omega
          · -- 18
            refine E_iconst dX10_fibre_18 ?_
            refine E_iret dX10_fibre_19 ?_
            exact ⟨rfl, _, rfl, hC, fun _ _ => rfl⟩
  · rw [cif_neg q] at hfi
    rw [show aFibre σ i k w = -1 from cif_neg (fun h => q h.1)]
    refine E_aload_n dX10_fibre_0 rfl ?_
    refine E_iload_n dX10_fibre_1 rfl ?_
    refine E_iload_n dX10_fibre_2 rfl ?_
    refine E_callVR dX10_fibre_3 lkX10_137 (Hp_get sk_0) (hfi) ?_
    refine E_if_eq 18 dX10_fibre_6 (fun h6 => ?_) (fun h6 => ?_)
    · -- 18
      refine E_iconst dX10_fibre_18 ?_
      refine E_iret dX10_fibre_19 ?_
      exact ⟨rfl, _, rfl, hC, fun _ _ => rfl⟩
    · -- 9
      exact absurd rfl h6
end READS
