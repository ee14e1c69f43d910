/-! FibredSpacesModel: which, ask -/
section MSEEN
variable {G : GT} {μ : Mem} {M : HV} {σ : St}
theorem wh_0 {st i : Int} {Q : QT} (hi : isS i) (hY : RepY μ σ.2.2.2.2) (hk : ∀ w4 : Value, E G mX11_which (Zq G mX11_which Q) 0 0 63 [.ref 203, vi st, vi i, vi 0, w4] [] (Hp μ)) : ∀ (t k : Nat), k + t = σ.2.2.2.2.length →
    E G mX11_which (Zq G mX11_which Q) 0 0 15 [.ref 203, vi st, vi i, vi 0, vi (k : Int)] [] (Hp μ)
  | 0, k, e => by
    have h1 := hY.1
    have h2 := hY.2.1
    refine E_iload dX11_which_15 rfl ?_
    refine E_aload_n dX11_which_17 rfl ?_
    refine GX11_306 sk_203 dX11_which_18 ?_
    refine E_icmp_ge 63 dX11_which_21 (fun h21 => ?_) (fun h21 => ?_)
    · -- 63
      exact hk _
    · -- 24
      exfalso; omega
  | t + 1, k, e => by
    have h1 := hY.1
    have h2 := hY.2.1
    have ih := wh_0 hi hY hk t (k + 1) (by omega)
    rw [show ((k + 1 : Nat) : Int) = (k : Int) + 1 by omega] at ih
    refine E_iload dX11_which_15 rfl ?_
    refine E_aload_n dX11_which_17 rfl ?_
    refine GX11_306 sk_203 dX11_which_18 ?_
    refine E_icmp_ge 63 dX11_which_21 (fun h21 => ?_) (fun h21 => ?_)
    · -- 63
      exfalso; omega
    · -- 24
      refine E_iload_n dX11_which_24 rfl ?_
      refine E_if_eq 55 dX11_which_25 (fun h25 => ?_) (fun h25 => ?_)
      · -- 55
        refine E_iconst dX11_which_55 ?_
        refine E_istore_n dX11_which_56 ?_
        refine E_iinc dX11_which_57 rfl ?_
        refine E_goto 15 dX11_which_60 ?_
        exact ih
      · -- 28
        exact absurd rfl h25
theorem wh_1 {st i : Int} {Q : QT} (hi : isS i) (hM : RepM μ σ) (hok : stOk σ) (hk : ∀ (μ2 : Mem) (w4 : Value), ThZ μ μ2 → E G mX11_which (Zq G mX11_which Q) 0 0 63 [.ref 203, vi st, vi i, vi (if candB σ i.toNat = true then 1 else 0), w4] [] (Hp μ2)) : ∀ (q p : List (Int × Int)) (μ' : Mem), p ++ q = σ.2.2.2.2 → candB σ i.toNat = agr (rankC (σ.1 i.toNat)) (torC (σ.1 i.toNat)) q → ThZ μ μ' →
    E G mX11_which (Zq G mX11_which Q) 0 0 15 [.ref 203, vi st, vi i, vi 1, vi (p.length : Int)] [] (Hp μ') := by
  intro q
  induction q with
  | nil =>
    intro p μ' e1 e2 h4
    have hY := (h4.m hM).2.2.2.2.1
    have k1 := hY.1
    have k2 := hY.2.1
    have hl : p.length = σ.2.2.2.2.length := by rw [← e1]; simp
    rw [if_pos (by rw [e2]; rfl)] at hk
    refine E_iload dX11_which_15 rfl ?_
    refine E_aload_n dX11_which_17 rfl ?_
    refine GX11_306 sk_203 dX11_which_18 ?_
    refine E_icmp_ge 63 dX11_which_21 (fun h21 => ?_) (fun h21 => ?_)
    · -- 63
      exact hk μ' _ h4
    · -- 24
      exfalso; omega
  | cons x q ih =>
    intro p μ' e1 e2 h4
    have hM' := h4.m hM
    have hY := hM'.2.2.2.2.1
    obtain ⟨k1, k2, k3, k4⟩ := id hY
    have hl : p.length + 1 + q.length = σ.2.2.2.2.length := by rw [← e1]; simp; omega
    obtain ⟨x1, x2, x3, x4⟩ := hok.2.2.2.2.2.2.1 x (by rw [← e1]; simp)
    have a1 : μ' 216 (p.length : Int) = x.1 := k3 p.length x.1 (by rw [← e1]; simp)
    have a2 : μ' 217 (p.length : Int) = x.2 := k4 p.length x.2 (by rw [← e1]; simp)
    obtain ⟨n, hn⟩ : ∃ n : Nat, x.1 = n := ⟨x.1.toNat, by omega⟩
    have ho := ok_at hi hok.1
    have hmb := m_mapsBy (G := G) (m := n) hi (by omega) (rn_at hi hM'.1) ho hM'.2.2.2.2.2
    have r1 : 1 ≤ mapS (σ.1 i.toNat) n ∧ mapS (σ.1 i.toNat) n ≤ 2218611106740436992 := mapC_rng (by omega) (torC_len ho) (rankC_rng ho).2
    have yes := fun (h : mapS (σ.1 i.toNat) n = x.2) (μ2 : Mem) (g : ThZ μ μ2) => ih (p ++ [x]) μ2 (by rw [← e1]; simp) (by
      have h' : mapC (rankC (σ.1 i.toNat)) (torC (σ.1 i.toNat)) x.1 = x.2 := by rw [hn]; exact h
      rw [e2]; simp [agr, h']) g
    rw [show ((p ++ [x]).length : Int) = (p.length : Int) + 1 by simp] at yes
    have no : mapS (σ.1 i.toNat) n ≠ x.2 → ∀ μ2 : Mem, ThZ μ μ2 → E G mX11_which (Zq G mX11_which Q) 0 0 15 [.ref 203, vi st, vi i, vi 0, vi ((p.length : Int) + 1)] [] (Hp μ2) := fun h μ2 g => by
      have h' : ¬ mapC (rankC (σ.1 i.toNat)) (torC (σ.1 i.toNat)) x.1 = x.2 := by rw [hn]; exact h
      have hf : ¬ candB σ i.toNat = true := by rw [e2]; simp [agr, h']
      rw [if_neg hf] at hk
      have t := wh_0 (G := G) (μ := μ2) (σ := σ) (st := st) hi (g.m hM).2.2.2.2.1 (fun w4 => hk μ2 w4 g) q.length (p.length + 1) (by omega)
      rw [show ((p.length + 1 : Nat) : Int) = (p.length : Int) + 1 by omega] at t
      exact t
    refine E_iload dX11_which_15 rfl ?_
    refine E_aload_n dX11_which_17 rfl ?_
    refine GX11_306 sk_203 dX11_which_18 ?_
    refine E_icmp_ge 63 dX11_which_21 (fun h21 => ?_) (fun h21 => ?_)
    · -- 63
      exfalso; omega
    · -- 24
      refine E_iload_n dX11_which_24 rfl ?_
      refine E_if_eq 55 dX11_which_25 (fun h25 => ?_) (fun h25 => ?_)
      · -- 55
        first | exact absurd h25 (by decide) | exact E_iconst dX11_which_55 (E_istore_n dX11_which_56 (E_iinc dX11_which_57 rfl (E_goto 15 dX11_which_60 (no h47 μ2 (h4.tr g)))))
      · -- 28
        refine E_aload_n dX11_which_28 rfl ?_
        refine E_iload_n dX11_which_29 rfl ?_
        refine E_aload_n dX11_which_30 rfl ?_
        refine GX11_48 sk_203 dX11_which_31 ?_
        refine E_iload dX11_which_34 rfl ?_
        refine H_iald sk_216 dX11_which_36 ?_
        rw [a1, hn]
        refine E_callVW dX11_which_37 lkX11_247 (Hp_get sk_203) (hmb) ?_
        rintro μ2 g
        have b2 : μ2 217 (p.length : Int) = x.2 := by rw [g.2 217 (by decide) (by decide)]; exact a2
        refine E_aload_n dX11_which_40 rfl ?_
        refine GX11_51 sk_203 dX11_which_41 ?_
        refine E_iload dX11_which_44 rfl ?_
        refine H_lald sk_217 dX11_which_46 ?_
        rw [b2]
        refine E_lcmp_ne 55 dX11_which_47 dX11_which_48 (fun h47 => ?_) (fun h47 => ?_)
        · -- 55
          first | exact absurd h25 (by decide) | exact E_iconst dX11_which_55 (E_istore_n dX11_which_56 (E_iinc dX11_which_57 rfl (E_goto 15 dX11_which_60 (no h47 μ2 (h4.tr g)))))
        · -- 51
          refine E_iconst dX11_which_51 ?_
          refine E_goto 56 dX11_which_52 ?_
          refine E_istore_n dX11_which_56 ?_
          refine E_iinc dX11_which_57 rfl ?_
          refine E_goto 15 dX11_which_60 ?_
          exact yes h47 μ2 (h4.tr g)
theorem wh_loop (hM : RepM μ σ) (hok : stOk σ) : ∀ (d n : Nat) (μ' : Mem) (w3 w4 : Value), n + d = 6 → ThZ μ μ' →
    E G mX11_which (Zq G mX11_which (V1 (vi (whichN σ : Nat)) (ThZ μ))) 0 0 4 [.ref 203, vi (bitsN (candB σ) n : Nat), vi (n : Int), w3, w4] [] (Hp μ')
  | 0, n, μ', w3, w4, e, h4 => by
    have : n = 6 := by omega
    subst this
    refine E_iload_n dX11_which_4 rfl ?_
    refine E_bipush dX11_which_5 ?_
    refine E_icmp_ge 83 dX11_which_7 (fun h7 => ?_) (fun h7 => ?_)
    · -- 83
      refine E_iload_n dX11_which_83 rfl ?_
      refine E_iret dX11_which_84 ?_
      exact ⟨rfl, _, rfl, h4⟩
    · -- 10
      exfalso; omega
  | d + 1, n, μ', w3, w4, e, h4 => by
    have q1 : isS (n : Int) := ⟨by omega, by omega⟩
    have hb := bitsN_lt (candB σ) n
    have hb6 : 2 ^ n ≤ 32 := Nat.pow_le_pow_right (n := 2) (j := 5) (by decide) (by omega)
    have en : ((n : Int)).toNat = n := by omega
    have e1 := shl_ok ⟨n, by omega⟩
    have e2 := ior_ok ⟨n, by omega⟩ ⟨bitsN (candB σ) n, by omega⟩ hb
    have e3 : Int32.ofInt (bitsN (candB σ) n : Nat) ||| Int32.ofInt 0 = Int32.ofInt (bitsN (candB σ) n : Nat) := by
      rw [show Int32.ofInt 0 = 0 from rfl, Int32.or_zero]
    have ih := wh_loop hM hok d (n + 1)
    rw [show ((n + 1 : Nat) : Int) = (n : Int) + 1 by omega] at ih
    have tail : ∀ (μ2 : Mem) (w4 : Value), ThZ μ μ2 → E G mX11_which (Zq G mX11_which (V1 (vi (whichN σ : Nat)) (ThZ μ))) 0 0 63 [.ref 203, vi (bitsN (candB σ) n : Nat), vi (n : Int), vi (if candB σ (n : Int).toNat = true then 1 else 0), w4] [] (Hp μ2) := by
      intro μ2 w4 g
      rw [en]
      by_cases hB : candB σ n = true
      · rw [if_pos hB]
        rw [show bitsN (candB σ) (n + 1) = bitsN (candB σ) n + 2 ^ n by simp only [bitsN]; rw [if_pos hB]] at ih
        refine E_iload_n dX11_which_63 rfl ?_
        refine E_iload_n dX11_which_64 rfl ?_
        refine E_if_eq 74 dX11_which_65 (fun h65 => ?_) (fun h65 => ?_)
        · -- 74
          exact absurd h65 (by decide)
        · -- 68
          refine E_iconst dX11_which_68 ?_
          refine E_iload_n dX11_which_69 rfl ?_
          refine E_ishl ((2 ^ n : Nat)) dX11_which_70 (e1) ?_
          refine E_goto 75 dX11_which_71 ?_
          refine E_ior ((bitsN (candB σ) n + 2 ^ n : Nat)) dX11_which_75 (e2) ?_
          refine E_istore_n dX11_which_76 ?_
          refine E_iinc dX11_which_77 rfl ?_
          refine E_goto 4 dX11_which_80 ?_
          exact ih μ2 _ _ (by omega) g
      · rw [if_neg hB]
        rw [show bitsN (candB σ) (n + 1) = bitsN (candB σ) n by simp only [bitsN]; rw [if_neg hB]; rfl] at ih
        refine E_iload_n dX11_which_63 rfl ?_
        refine E_iload_n dX11_which_64 rfl ?_
        refine E_if_eq 74 dX11_which_65 (fun h65 => ?_) (fun h65 => ?_)
        · -- 74
          refine E_iconst dX11_which_74 ?_
          refine E_ior ((bitsN (candB σ) n : Nat)) dX11_which_75 (e3) ?_
          refine E_istore_n dX11_which_76 ?_
          refine E_iinc dX11_which_77 rfl ?_
          refine E_goto 4 dX11_which_80 ?_
          exact ih μ2 _ _ (by omega) g
        · -- 68
          exact absurd rfl h65
    refine E_iload_n dX11_which_4 rfl ?_
    refine E_bipush dX11_which_5 ?_
    refine E_icmp_ge 83 dX11_which_7 (fun h7 => ?_) (fun h7 => ?_)
    · -- 83
      exfalso; omega
    · -- 10
      refine E_iconst dX11_which_10 ?_
      refine E_istore_n dX11_which_11 ?_
      refine E_iconst dX11_which_12 ?_
      refine E_istore dX11_which_13 ?_
      refine wh_1 (μ := μ) q1 hM hok tail σ.2.2.2.2 [] μ' rfl ?_ h4
      rw [en]; rfl
theorem m_which0 (hM : RepM μ σ) (hok : stOk σ) : Ctr G mX11_which [.ref 203] (Hp μ) (V1 (vi (whichN σ : Nat)) (ThZ μ)) := by
  refine Ctr.of ?_
  refine E_iconst dX11_which_0 ?_
  refine E_istore_n dX11_which_1 ?_
  refine E_iconst dX11_which_2 ?_
  refine E_istore_n dX11_which_3 ?_
  exact wh_loop hM hok 6 0 μ _ _ (by omega) ⟨hM.2.2.2.2.2, fun _ _ _ => rfl⟩
theorem m_which (hM : RepM μ σ) (hok : stOk σ) : Ctr G mX11_which [.ref 203] (Hp μ) (NQ μ ((whichN σ : Nat), σ)) := by
  refine (m_which0 hM hok).mono ?_
  rintro v M ⟨hv, μ', hM', g⟩
  exact ⟨hv, μ', hM', g.m hM, fun q hq => g.2 q (by omega) (by omega)⟩
def ThU (μ μ' : Mem) : Prop := (∀ j : Int, 0 ≤ j → j < 12 → μ' 215 j = 0) ∧ ∀ q : Nat, q ≠ 214 → q ≠ 215 → q ≠ 218 → μ' q = μ q
theorem ThU.m {μ' : Mem} (h : ThU μ μ') (hM : RepM μ σ) : RepM μ' σ := by
  have e : ∀ q : Nat, q ≠ 214 → q ≠ 215 → q ≠ 218 → μ' q = μ q := h.2
  have e0 : μ' 203 = μ 203 := e 203 (by decide) (by decide) (by decide)
  obtain ⟨h1, h2, h3, h4, h5, h6⟩ := hM
  exact ⟨h1.kept (e 204 (by decide) (by decide) (by decide)), h2.kept (by rw [e0]) (e 205 (by decide) (by decide) (by decide)), h3.kept (e 206 (by decide) (by decide) (by decide)) (e 207 (by decide) (by decide) (by decide)), h4.kept (by rw [e0]) (e 210 (by decide) (by decide) (by decide)), h5.kept (by rw [e0]) (e 216 (by decide) (by decide) (by decide)) (e 217 (by decide) (by decide) (by decide)), h.1⟩
theorem ThU.tr {μ1 μ2 : Mem} (h : ThU μ μ1) (h' : ThU μ1 μ2) : ThU μ μ2 := ⟨h'.1, fun q a b c => by rw [h'.2 q a b c, h.2 q a b c]⟩
theorem ThZ.u {μ' : Mem} (h : ThZ μ μ') : ThU μ μ' := ⟨h.1, fun q a b _ => h.2 q a b⟩
theorem ThU.told {μ1 : Mem} {j x : Int} (h : ThU μ μ1) : ThU μ (up μ1 218 j x) := ⟨fun i i0 i1 => by rw [up_ne 215 (by decide)]; exact h.1 i i0 i1, fun q a b c => by rw [up_ne q c]; exact h.2 q a b c⟩
theorem al_fill {st : Int} {m : Nat} {Q : QT} (hm : 2 ≤ m ∧ m ≤ 12) (hM : RepM μ σ) (hok : stOk σ) (hk : ∀ (μ2 : Mem) (w : Value), ThU μ μ2 → (∀ j : Nat, j < 6 → μ2 218 j = mapS (σ.1 j) m) → E G mX11_alike (Zq G mX11_alike Q) 0 0 26 [.ref 203, vi st, vi (m : Int), w, .retAddr 0, .retAddr 0, .retAddr 0] [] (Hp μ2)) : ∀ (d n : Nat) (μ' : Mem), n + d = 6 → ThU μ μ' → (∀ j : Nat, j < n → μ' 218 j = mapS (σ.1 j) m) →
    E G mX11_alike (Zq G mX11_alike Q) 0 0 2 [.ref 203, vi st, vi (m : Int), vi (n : Int), .retAddr 0, .retAddr 0, .retAddr 0] [] (Hp μ')
  | 0, n, μ', e, h4, hv => by
    have : n = 6 := by omega
    subst this
    refine E_iload_n dX11_alike_2 rfl ?_
    refine E_bipush dX11_alike_3 ?_
    refine E_icmp_ge 26 dX11_alike_5 (fun h5 => ?_) (fun h5 => ?_)
    · -- 26
      exact hk μ' _ h4 hv
    · -- 8
      exfalso; omega
  | d + 1, n, μ', e, h4, hv => by
    have q1 : isS (n : Int) := ⟨by omega, by omega⟩
    have hM' := h4.m hM
    have ih := al_fill hm hM hok hk d (n + 1)
    rw [show ((n + 1 : Nat) : Int) = (n : Int) + 1 by omega] at ih
    refine E_iload_n dX11_alike_2 rfl ?_
    refine E_bipush dX11_alike_3 ?_
    refine E_icmp_ge 26 dX11_alike_5 (fun h5 => ?_) (fun h5 => ?_)
    · -- 26
      exfalso; omega
    · -- 8
      refine E_aload_n dX11_alike_8 rfl ?_
      refine GX11_54 sk_203 dX11_alike_9 ?_
      refine E_iload_n dX11_alike_12 rfl ?_
      refine E_aload_n dX11_alike_13 rfl ?_
      refine E_iload_n dX11_alike_14 rfl ?_
      refine E_iload_n dX11_alike_15 rfl ?_
      refine E_callVW dX11_alike_16 lkX11_247 (Hp_get sk_203) (m_mapsBy (m := m) q1 hm (rn_at q1 hM'.1) (ok_at q1 hok.1) hM'.2.2.2.2.2) ?_
      rintro μ2 g
      refine H_last sk_218 dX11_alike_19 ?_
      refine E_iinc dX11_alike_20 rfl ?_
      refine E_goto 2 dX11_alike_23 ?_
      refine ih _ (by omega) (h4.tr g.u).told (fun j hj => ?_)
      rw [up_r]
      split
      · next e => rw [show j = n by omega]; rfl
      · rw [g.2 218 (by decide) (by decide)]; exact hv j (by omega)
theorem al_inner {m best : Int} {s i : Nat} {Q : QT} (hs : s < 64) (hi : i < 6) (hok : stOk σ) (hm : 2 ≤ m ∧ m ≤ 12) (hv : ∀ j : Nat, j < 6 → μ 218 j = mapS (σ.1 j) m) (hk : ∀ w6, E G mX11_alike (Zq G mX11_alike Q) 0 0 100 [.ref 203, vi s, vi m, vi best, vi (i : Int), vi (clsN (fun j => mapS (σ.1 j) m) s i 6), w6] [] (Hp μ)) : ∀ (d j : Nat), j + d = 6 →
    E G mX11_alike (Zq G mX11_alike Q) 0 0 44 [.ref 203, vi s, vi m, vi best, vi (i : Int), vi (clsN (fun j => mapS (σ.1 j) m) s i j), vi (j : Int)] [] (Hp μ)
  | 0, j, hn => by
    have : j = 6 := by omega
    subst this
    refine E_iload dX11_alike_44 rfl ?_
    refine E_bipush dX11_alike_46 ?_
    refine E_icmp_ge 100 dX11_alike_48 (fun h48 => ?_) (fun h48 => ?_)
    · -- 100
      exact hk _
    · -- 51
      exfalso; omega
  | d + 1, j, hn => by
    have e1 := shr_ok ⟨s, hs⟩ ⟨i, hi⟩
    have e2 := shr_ok ⟨s, hs⟩ ⟨j, by omega⟩
    have b1 : s / 2 ^ i < 64 := Nat.lt_of_le_of_lt (Nat.div_le_self _ _) hs
    have b2 : s / 2 ^ j < 64 := Nat.lt_of_le_of_lt (Nat.div_le_self _ _) hs
    have b3 : (s / 2 ^ i &&& s / 2 ^ j) < 64 := Nat.lt_of_le_of_lt Nat.and_le_left b1
    have e3 := and_ok ⟨_, b1⟩ ⟨_, b2⟩
    have e4 := and_ok ⟨_, b3⟩ ⟨1, by omega⟩
    have v1 := hv i hi
    have v2 := hv j (by omega)
    have r1' : 1 ≤ mapS (σ.1 i) m ∧ mapS (σ.1 i) m ≤ 2218611106740436992 := mapC_rng hm (torC_len (hok.1 i hi)) (rankC_rng (hok.1 i hi)).2
    have r2' : 1 ≤ mapS (σ.1 j) m ∧ mapS (σ.1 j) m ≤ 2218611106740436992 := mapC_rng hm (torC_len (hok.1 j (by omega))) (rankC_rng (hok.1 j (by omega))).2
    have ht : tbN s i j ≤ 1 := Nat.and_le_right
    have yes : tb s i j = true → mapS (σ.1 i) m = mapS (σ.1 j) m → clsN (fun j => mapS (σ.1 j) m) s i (j + 1) = clsN (fun j => mapS (σ.1 j) m) s i j + 1 := fun a b => by simp only [clsN]; rw [cif_pos ⟨a, b⟩]
    have no : ¬ (tb s i j = true ∧ mapS (σ.1 i) m = mapS (σ.1 j) m) → clsN (fun j => mapS (σ.1 j) m) s i (j + 1) = clsN (fun j => mapS (σ.1 j) m) s i j + 0 := fun a => by simp only [clsN]; rw [cif_neg a]
    have ih := al_inner hs hi hok hm hv hk d (j + 1)
    rw [show ((j + 1 : Nat) : Int) = (j : Int) + 1 by omega] at ih
    have fin : ∀ x : Int, clsN (fun j => mapS (σ.1 j) m) s i (j + 1) = clsN (fun j => mapS (σ.1 j) m) s i j + x → E G mX11_alike (Zq G mX11_alike Q) 0 0 91 [.ref 203, vi s, vi m, vi best, vi (i : Int), vi (clsN (fun j => mapS (σ.1 j) m) s i j), vi (j : Int)] [vi x, vi (clsN (fun j => mapS (σ.1 j) m) s i j)] (Hp μ) := by
      intro x hx
      rw [hx] at ih
      exact E_iadd dX11_alike_91 (E_istore dX11_alike_92 (E_iinc dX11_alike_94 rfl (E_goto 44 dX11_alike_97 (ih (by omega)))))
    by_cases hB : tbN s i j = 1
    · have hB2 : tb s i j = true := decide_eq_true hB
      rw [show ((s / 2 ^ i &&& s / 2 ^ j) &&& 1 : Nat) = 1 from hB] at e4
      refine E_iload dX11_alike_44 rfl ?_
      refine E_bipush dX11_alike_46 ?_
      refine E_icmp_ge 100 dX11_alike_48 (fun h48 => ?_) (fun h48 => ?_)
      · -- 100
        exfalso; omega
      · -- 51
        refine E_iload dX11_alike_51 rfl ?_
        refine E_iload_n dX11_alike_53 rfl ?_
        refine E_iload dX11_alike_54 rfl ?_
        refine E_ishr ((s / 2 ^ i : Nat)) dX11_alike_56 (e1) ?_
        refine E_iload_n dX11_alike_57 rfl ?_
        refine E_iload dX11_alike_58 rfl ?_
        refine E_ishr ((s / 2 ^ j : Nat)) dX11_alike_60 (e2) ?_
        refine E_iand ((s / 2 ^ i &&& s / 2 ^ j : Nat)) dX11_alike_61 (e3) ?_
        refine E_iconst dX11_alike_62 ?_
        refine E_iand ((1 : Nat)) dX11_alike_63 (e4) ?_
        refine E_iconst dX11_alike_64 ?_
        refine E_icmp_ne 90 dX11_alike_65 (fun h65 => ?_) (fun h65 => ?_)
        · -- 90
          refine E_iconst dX11_alike_90 ?_
          first | exact absurd rfl h65 | exact fin 0 (no (fun h => h82 h.2)) | exact fin 1 (yes hB2 h82)
        · -- 68
          refine E_aload_n dX11_alike_68 rfl ?_
          refine GX11_54 sk_203 dX11_alike_69 ?_
          refine E_iload dX11_alike_72 rfl ?_
          refine H_lald sk_218 dX11_alike_74 ?_
          rw [v1]
          refine E_aload_n dX11_alike_75 rfl ?_
          refine GX11_54 sk_203 dX11_alike_76 ?_
          refine E_iload dX11_alike_79 rfl ?_
          refine H_lald sk_218 dX11_alike_81 ?_
          rw [v2]
          refine E_lcmp_ne 90 dX11_alike_82 dX11_alike_83 (fun h82 => ?_) (fun h82 => ?_)
          · -- 90
            refine E_iconst dX11_alike_90 ?_
            first | exact absurd rfl h65 | exact fin 0 (no (fun h => h82 h.2)) | exact fin 1 (yes hB2 h82)
          · -- 86
            refine E_iconst dX11_alike_86 ?_
            refine E_goto 91 dX11_alike_87 ?_
            first | exact absurd rfl h65 | exact fin 0 (no (fun h => h82 h.2)) | exact fin 1 (yes hB2 h82)
    · have hB2 : ¬ tb s i j = true := fun h => hB (of_decide_eq_true h)
      rw [show ((s / 2 ^ i &&& s / 2 ^ j) &&& 1 : Nat) = 0 from by change tbN s i j = 0; omega] at e4
      refine E_iload dX11_alike_44 rfl ?_
      refine E_bipush dX11_alike_46 ?_
      refine E_icmp_ge 100 dX11_alike_48 (fun h48 => ?_) (fun h48 => ?_)
      · -- 100
        exfalso; omega
      · -- 51
        refine E_iload dX11_alike_51 rfl ?_
        refine E_iload_n dX11_alike_53 rfl ?_
        refine E_iload dX11_alike_54 rfl ?_
        refine E_ishr ((s / 2 ^ i : Nat)) dX11_alike_56 (e1) ?_
        refine E_iload_n dX11_alike_57 rfl ?_
        refine E_iload dX11_alike_58 rfl ?_
        refine E_ishr ((s / 2 ^ j : Nat)) dX11_alike_60 (e2) ?_
        refine E_iand ((s / 2 ^ i &&& s / 2 ^ j : Nat)) dX11_alike_61 (e3) ?_
        refine E_iconst dX11_alike_62 ?_
        refine E_iand ((0 : Nat)) dX11_alike_63 (e4) ?_
        refine E_iconst dX11_alike_64 ?_
        refine E_icmp_ne 90 dX11_alike_65 (fun h65 => ?_) (fun h65 => ?_)
        · -- 90
          refine E_iconst dX11_alike_90 ?_
          exact fin 0 (no (fun h => hB2 h.1))
        · -- 68
          exact absurd h65 (by decide)
theorem al_outer {m : Int} {s : Nat} {P : Mem → Prop} (hs : s < 64) (hok : stOk σ) (hm : 2 ≤ m ∧ m ≤ 12) (hv : ∀ j : Nat, j < 6 → μ 218 j = mapS (σ.1 j) m) (hP : P μ) : ∀ (d i : Nat) (w5 w6 : Value), i + d = 6 →
    E G mX11_alike (Zq G mX11_alike (V1 (vi (greatS σ s m)) P)) 0 0 31 [.ref 203, vi s, vi m, vi (grN (fun j => mapS (σ.1 j) m) s i), vi (i : Int), w5, w6] [] (Hp μ)
  | 0, i, w5, w6, hn => by
    have : i = 6 := by omega
    subst this
    refine E_iload dX11_alike_31 rfl ?_
    refine E_bipush dX11_alike_33 ?_
    refine E_icmp_ge 119 dX11_alike_35 (fun h35 => ?_) (fun h35 => ?_)
    · -- 119
      refine E_iload_n dX11_alike_119 rfl ?_
      refine E_iret dX11_alike_120 ?_
      exact ⟨rfl, _, rfl, hP⟩
    · -- 38
      exfalso; omega
  | d + 1, i, w5, w6, hn => by
    have r1 := grN_rng (fun j => mapS (σ.1 j) m) s i
    have r2 := clsN_rng (fun j => mapS (σ.1 j) m) s i 6
    have ih := al_outer (P := P) hs hok hm hv hP d (i + 1)
    rw [show ((i + 1 : Nat) : Int) = (i : Int) + 1 by omega, show grN (fun j => mapS (σ.1 j) m) s (i + 1) = max (grN (fun j => mapS (σ.1 j) m) s i) (clsN (fun j => mapS (σ.1 j) m) s i 6) from rfl] at ih
    have fin : ∀ w6, E G mX11_alike (Zq G mX11_alike (V1 (vi (greatS σ s m)) P)) 0 0 100 [.ref 203, vi s, vi m, vi (grN (fun j => mapS (σ.1 j) m) s i), vi (i : Int), vi (clsN (fun j => mapS (σ.1 j) m) s i 6), w6] [] (Hp μ) := by
      intro w6
      have big : clsN (fun j => mapS (σ.1 j) m) s i 6 ≤ grN (fun j => mapS (σ.1 j) m) s i → max (grN (fun j => mapS (σ.1 j) m) s i) (clsN (fun j => mapS (σ.1 j) m) s i 6) = grN (fun j => mapS (σ.1 j) m) s i := fun h => by omega
      have sml : grN (fun j => mapS (σ.1 j) m) s i < clsN (fun j => mapS (σ.1 j) m) s i 6 → max (grN (fun j => mapS (σ.1 j) m) s i) (clsN (fun j => mapS (σ.1 j) m) s i 6) = clsN (fun j => mapS (σ.1 j) m) s i 6 := fun h => by omega
      refine E_iload dX11_alike_100 rfl ?_
      refine E_iload_n dX11_alike_102 rfl ?_
      refine E_icmp_le 111 dX11_alike_103 (fun h103 => ?_) (fun h103 => ?_)
      · -- 111
        refine E_iload_n dX11_alike_111 rfl ?_
        refine E_istore_n dX11_alike_112 ?_
        refine E_iinc dX11_alike_113 rfl ?_
        refine E_goto 31 dX11_alike_116 ?_
        first | (rw [big h103] at ih; exact ih _ _ (by omega)) | (rw [sml (by omega)] at ih; exact ih _ _ (by omega))
      · -- 106
        refine E_iload dX11_alike_106 rfl ?_
        refine E_goto 112 dX11_alike_108 ?_
        refine E_istore_n dX11_alike_112 ?_
        refine E_iinc dX11_alike_113 rfl ?_
        refine E_goto 31 dX11_alike_116 ?_
        first | (rw [big h103] at ih; exact ih _ _ (by omega)) | (rw [sml (by omega)] at ih; exact ih _ _ (by omega))
    refine E_iload dX11_alike_31 rfl ?_
    refine E_bipush dX11_alike_33 ?_
    refine E_icmp_ge 119 dX11_alike_35 (fun h35 => ?_) (fun h35 => ?_)
    · -- 119
      exfalso; omega
    · -- 38
      refine E_iconst dX11_alike_38 ?_
      refine E_istore dX11_alike_39 ?_
      refine E_iconst dX11_alike_41 ?_
      refine E_istore dX11_alike_42 ?_
      exact al_inner hs (by omega) hok hm hv fin 6 0 (by omega)
theorem m_alike {m : Nat} {s : Nat} (hs : s < 64) (hm : 2 ≤ m ∧ m ≤ 12) (hM : RepM μ σ) (hok : stOk σ) : Ctr G mX11_alike [.ref 203, vi s, vi (m : Int)] (Hp μ) (V1 (vi (greatS σ s m)) (ThU μ)) := by
  refine Ctr.of ?_
  refine E_iconst dX11_alike_0 ?_
  refine E_istore_n dX11_alike_1 ?_
  refine al_fill hm hM hok (fun μ2 w g1 g2 => ?_) 6 0 μ (by omega) ⟨hM.2.2.2.2.2, fun _ _ _ _ => rfl⟩ (fun j hj => by omega)
  refine E_iconst dX11_alike_26 ?_
  refine E_istore_n dX11_alike_27 ?_
  refine E_iconst dX11_alike_28 ?_
  refine E_istore dX11_alike_29 ?_
  exact al_outer (P := ThU μ) hs hok (by omega) g2 g1 6 0 _ _ (by omega)
theorem and_bc : ∀ s : Fin 64, (Int32.ofInt (s.val : Int) &&& Int32.ofInt ((s.val : Int) - 1)).toInt = 0 ↔ bc s.val < 2 := by decide +kernel
theorem mask_loop {s : Nat} (hs : s = whichN σ) (hM : RepM μ σ) (hok : stOk σ) : ∀ (d n : Nat) (μ' : Mem) (b : Int) (w : Value), n + d = 11 → ThU μ μ' → (n = 0 ∨ b = (askN (fun m => greatS σ s m) n).2) → 1 ≤ n + d →
    E G mX11_ask (Zq G mX11_ask (NQ μ ((askN (fun m => greatS σ s m) 11).2, σ))) 0 0 25 [.ref 203, vi s, vi b, vi (askN (fun m => greatS σ s m) n).1, vi ((n : Int) + 2), w] [] (Hp μ')
  | 0, n, μ', b, w, hn, ho, hb, _ => by
    have : n = 11 := by omega
    subst this
    have hb2 : b = (askN (fun m => greatS σ s m) 11).2 := by
      rcases hb with h | h
      · omega
      · exact h
    rw [hb2]
    refine E_iload dX11_ask_25 rfl ?_
    refine E_bipush dX11_ask_27 ?_
    refine E_icmp_gt 73 dX11_ask_29 (fun h29 => ?_) (fun h29 => ?_)
    · -- 73
      refine E_iload_n dX11_ask_73 rfl ?_
      refine E_iret dX11_ask_74 ?_
      exact ⟨rfl, _, rfl, ho.m hM, fun q hq => ho.2 q (by omega) (by omega) (by omega)⟩
    · -- 32
      exfalso; omega
  | d + 1, n, μ', b, w, hn, ho, hb, _ => by
    have hM' := ho.m hM
    have h64 : s < 64 := by rw [hs]; exact whichN_lt σ
    have r1' : 0 ≤ greatS σ s ((n + 2 : Nat) : Int) ∧ greatS σ s ((n + 2 : Nat) : Int) ≤ 6 := grN_rng (fun i => mapS (σ.1 i) ((n + 2 : Nat) : Int)) s 6
    have r2 : ∀ n : Nat, 0 ≤ (askN (fun m => greatS σ s m) n).1 ∧ (askN (fun m => greatS σ s m) n).1 ≤ 7 := by
      intro n
      induction n with
      | zero => simp [askN]
      | succ n ih =>
        have r : 0 ≤ greatS σ s ((n : Int) + 2) ∧ greatS σ s ((n : Int) + 2) ≤ 6 := grN_rng (fun i => mapS (σ.1 i) ((n : Int) + 2)) s 6
        simp only [askN]
        by_cases h : greatS σ s ((n : Int) + 2) < (askN (fun m => greatS σ s m) n).1
        · rw [cif_pos h]; exact ⟨r.1, by omega⟩
        · rw [cif_neg h]; exact ih
    have r3 := r2 n
    have z0 : n = 0 → (askN (fun m => greatS σ s m) n).1 = 7 := fun h => by subst h; rfl
    have ih := mask_loop hs hM hok d (n + 1)
    have e2 : (((n + 1 : Nat) : Int) + 2) = (n : Int) + 2 + 1 := by omega
    have e3 : ((n : Int) + 2) = ((n + 2 : Nat) : Int) := by omega
    rw [e2] at ih
    have hal := m_alike (G := G) (m := n + 2) h64 (by omega) hM' hok
    have ecif : askN (fun m => greatS σ s m) (n + 1) = cif (greatS σ s ((n + 2 : Nat) : Int) < (askN (fun m => greatS σ s m) n).1) (greatS σ s ((n + 2 : Nat) : Int), ((n + 2 : Nat) : Int)) (askN (fun m => greatS σ s m) n) := by
      simp only [askN, e3]
    rw [e3] at ih ⊢
    by_cases h : greatS σ s ((n + 2 : Nat) : Int) < (askN (fun m => greatS σ s m) n).1
    · rw [ecif, cif_pos h] at ih
      refine E_iload dX11_ask_25 rfl ?_
      refine E_bipush dX11_ask_27 ?_
      refine E_icmp_gt 73 dX11_ask_29 (fun h29 => ?_) (fun h29 => ?_)
      · -- 73
        exfalso; omega
      · -- 32
        refine E_aload_n dX11_ask_32 rfl ?_
        refine E_iload_n dX11_ask_33 rfl ?_
        refine E_iload dX11_ask_34 rfl ?_
        refine E_callVW dX11_ask_36 lkX11_313 (Hp_get sk_203) (hal) ?_
        rintro μ2 g
        refine E_istore dX11_ask_39 ?_
        refine E_iload dX11_ask_41 rfl ?_
        refine E_iload_n dX11_ask_43 rfl ?_
        refine E_icmp_ge 52 dX11_ask_44 (fun h44 => ?_) (fun h44 => ?_)
        · -- 52
          exact absurd h (by omega)
        · -- 47
          refine E_iload dX11_ask_47 rfl ?_
          refine E_goto 53 dX11_ask_49 ?_
          refine E_istore_n dX11_ask_53 ?_
          refine E_iload dX11_ask_54 rfl ?_
          refine E_iload_n dX11_ask_56 rfl ?_
          refine E_icmp_ge 65 dX11_ask_57 (fun h57 => ?_) (fun h57 => ?_)
          · -- 65
            exact absurd h (by omega)
          · -- 60
            refine E_iload dX11_ask_60 rfl ?_
            refine E_goto 66 dX11_ask_62 ?_
            refine E_istore_n dX11_ask_66 ?_
            refine E_iinc dX11_ask_67 rfl ?_
            refine E_goto 25 dX11_ask_70 ?_
            exact ih μ2 _ _ (by omega) (ho.tr g) (Or.inr rfl) (by omega)
    · rw [ecif, cif_neg h] at ih
      have hn0 : n ≠ 0 := fun e => h (by rw [z0 e]; omega)
      have hb2 : b = (askN (fun m => greatS σ s m) n).2 := by
        rcases hb with e | e
        · exact absurd e hn0
        · exact e
      refine E_iload dX11_ask_25 rfl ?_
      refine E_bipush dX11_ask_27 ?_
      refine E_icmp_gt 73 dX11_ask_29 (fun h29 => ?_) (fun h29 => ?_)
      · -- 73
        exfalso; omega
      · -- 32
        refine E_aload_n dX11_ask_32 rfl ?_
        refine E_iload_n dX11_ask_33 rfl ?_
        refine E_iload dX11_ask_34 rfl ?_
        refine E_callVW dX11_ask_36 lkX11_313 (Hp_get sk_203) (hal) ?_
        rintro μ2 g
        refine E_istore dX11_ask_39 ?_
        refine E_iload dX11_ask_41 rfl ?_
        refine E_iload_n dX11_ask_43 rfl ?_
        refine E_icmp_ge 52 dX11_ask_44 (fun h44 => ?_) (fun h44 => ?_)
        · -- 52
          refine E_iload_n dX11_ask_52 rfl ?_
          refine E_istore_n dX11_ask_53 ?_
          refine E_iload dX11_ask_54 rfl ?_
          refine E_iload_n dX11_ask_56 rfl ?_
          refine E_icmp_ge 65 dX11_ask_57 (fun h57 => ?_) (fun h57 => ?_)
          · -- 65
            refine E_iload_n dX11_ask_65 rfl ?_
            refine E_istore_n dX11_ask_66 ?_
            refine E_iinc dX11_ask_67 rfl ?_
            refine E_goto 25 dX11_ask_70 ?_
            exact ih μ2 _ _ (by omega) (ho.tr g) (Or.inr hb2) (by omega)
          · -- 60
            exact absurd h57 h
        · -- 47
          exact absurd h44 h
theorem m_ask (hM : RepM μ σ) (hok : stOk σ) : Ctr G mX11_ask [.ref 203] (Hp μ) (NQ μ (aAsk σ, σ)) := by
  refine Ctr.of ?_
  have ha := and_bc ⟨whichN σ, whichN_lt σ⟩
  have hr := t32 (Int32.ofInt (whichN σ : Int) &&& Int32.ofInt ((whichN σ : Int) - 1))
  by_cases q : bc (whichN σ) < 2
  · rw [show aAsk σ = -9 from cif_pos q]
    have h0 := ha.mpr q
    refine E_aload_n dX11_ask_0 rfl ?_
    refine E_callVW dX11_ask_1 lkX11_309 (Hp_get sk_203) (m_which0 hM hok) ?_
    rintro μ1 g
    refine E_istore_n dX11_ask_4 ?_
    refine E_iload_n dX11_ask_5 rfl ?_
    refine E_iload_n dX11_ask_6 rfl ?_
    refine E_iconst dX11_ask_7 ?_
    refine E_isub dX11_ask_8 ?_
    refine E_iand (_) dX11_ask_9 ((Int32.ofInt_toInt _).symm) ?_
    refine E_if_ne 16 dX11_ask_10 (fun h10 => ?_) (fun h10 => ?_)
    · -- 16
      exact absurd h0 h10
    · -- 13
      refine E_bipush dX11_ask_13 ?_
      refine E_iret dX11_ask_15 ?_
      exact ⟨rfl, _, rfl, g.m hM, fun q hq => g.2 q (by omega) (by omega)⟩
  · rw [show aAsk σ = _ from cif_neg q]
    have h0 : ¬ _ := fun h => q (ha.mp h)
    refine E_aload_n dX11_ask_0 rfl ?_
    refine E_callVW dX11_ask_1 lkX11_309 (Hp_get sk_203) (m_which0 hM hok) ?_
    rintro μ1 g
    refine E_istore_n dX11_ask_4 ?_
    refine E_iload_n dX11_ask_5 rfl ?_
    refine E_iload_n dX11_ask_6 rfl ?_
    refine E_iconst dX11_ask_7 ?_
    refine E_isub dX11_ask_8 ?_
    refine E_iand (_) dX11_ask_9 ((Int32.ofInt_toInt _).symm) ?_
    refine E_if_ne 16 dX11_ask_10 (fun h10 => ?_) (fun h10 => ?_)
    · -- 16
      refine E_bipush dX11_ask_16 ?_
      refine E_istore_n dX11_ask_18 ?_
      refine E_bipush dX11_ask_19 ?_
      refine E_istore_n dX11_ask_21 ?_
      refine E_iconst dX11_ask_22 ?_
      refine E_istore dX11_ask_23 ?_
      exact mask_loop (μ := μ) rfl hM hok 11 0 μ1 _ _ (by omega) g.u (Or.inl rfl) (by omega)
    · -- 13
      exact absurd h10 h0
end MSEEN
