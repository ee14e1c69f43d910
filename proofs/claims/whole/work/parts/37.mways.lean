/-! FibredSpacesModel: ways, and what is given to them -/
section MWAYS
variable {G : GT} {μ : Mem} {M : HV} {σ : St}
theorem bw_loop : ∀ (t k : Nat) (μ' : Mem), k + t = 12 → (∀ j : Int, 0 ≤ j → j < k → μ' 214 j = if j = 0 then 1 else 0) → (∀ q : Nat, q ≠ 214 → μ' q = μ q) →
    E G mX11_beginWays (Zq G mX11_beginWays (V0 (fun μ' => (∀ j : Int, 0 ≤ j → j < 12 → μ' 214 j = if j = 0 then 1 else 0) ∧ ∀ q : Nat, q ≠ 214 → μ' q = μ q))) 0 0 2 [.ref 203, vi (k : Int)] [] (Hp μ')
  | 0, k, μ', hk, h1, h2 => by
    have : k = 12 := by omega
    subst this
    refine E_iload_n dX11_beginWays_2 rfl ?_
    refine E_bipush dX11_beginWays_3 ?_
    refine E_icmp_ge 29 dX11_beginWays_5 (fun h5 => ?_) (fun h5 => ?_)
    · -- 29
      refine E_vret dX11_beginWays_29 ?_
      exact ⟨rfl, _, rfl, h1, h2⟩
    · -- 8
      exfalso; omega
  | t + 1, k, μ', hk, h1, h2 => by
    have ih := bw_loop t (k + 1)
    rw [show ((k + 1 : Nat) : Int) = (k : Int) + 1 by omega] at ih
    refine E_iload_n dX11_beginWays_2 rfl ?_
    refine E_bipush dX11_beginWays_3 ?_
    refine E_icmp_ge 29 dX11_beginWays_5 (fun h5 => ?_) (fun h5 => ?_)
    · -- 29
      exfalso; omega
    · -- 8
      refine E_aload_n dX11_beginWays_8 rfl ?_
      refine GX11_42 sk_203 dX11_beginWays_9 ?_
      refine E_iload_n dX11_beginWays_12 rfl ?_
      refine E_iload_n dX11_beginWays_13 rfl ?_
      refine E_if_ne 21 dX11_beginWays_14 (fun h14 => ?_) (fun h14 => ?_)
      · -- 21
        refine E_lconst0 dX11_beginWays_21 ?_
        refine H_last sk_214 dX11_beginWays_22 ?_
        refine E_iinc dX11_beginWays_23 rfl ?_
        refine E_goto 2 dX11_beginWays_26 ?_
        refine ih _ (by omega) (fun j j0 j1 => ?_) (fun q hq => by rw [up_ne q hq]; exact h2 q hq)
        rw [up_r]
        by_cases e : j = (k : Int)
        · rw [if_pos e]; first | rw [if_pos (by omega)] | rw [if_neg (by omega)]
        · rw [if_neg e]; exact h1 j j0 (by omega)
      · -- 17
        refine E_lconst1 dX11_beginWays_17 ?_
        refine E_goto 22 dX11_beginWays_18 ?_
        refine H_last sk_214 dX11_beginWays_22 ?_
        refine E_iinc dX11_beginWays_23 rfl ?_
        refine E_goto 2 dX11_beginWays_26 ?_
        refine ih _ (by omega) (fun j j0 j1 => ?_) (fun q hq => by rw [up_ne q hq]; exact h2 q hq)
        rw [up_r]
        by_cases e : j = (k : Int)
        · rw [if_pos e]; first | rw [if_pos (by omega)] | rw [if_neg (by omega)]
        · rw [if_neg e]; exact h1 j j0 (by omega)
theorem m_beginWays : Ctr G mX11_beginWays [.ref 203] (Hp μ) (V0 (fun μ' => (∀ j : Int, 0 ≤ j → j < 12 → μ' 214 j = if j = 0 then 1 else 0) ∧ ∀ q : Nat, q ≠ 214 → μ' q = μ q)) := by
  refine Ctr.of ?_
  refine E_iconst dX11_beginWays_0 ?_
  refine E_istore_n dX11_beginWays_1 ?_
  exact bw_loop 12 0 μ (by omega) (fun j j0 j1 => by omega) (fun _ _ => rfl)
def TakT (μ : Mem) (m : Nat) (μ' : Mem) : Prop := (∀ j : Int, 0 ≤ j → j < m → μ' 214 j = μ 215 j ∧ μ' 215 j = 0) ∧ (∀ j : Int, (m : Int) ≤ j → μ' 215 j = μ 215 j) ∧ ∀ q : Nat, q ≠ 214 → q ≠ 215 → μ' q = μ q
theorem tt_loop {m : Nat} (hm : m ≤ 12) : ∀ (t k : Nat) (μ' : Mem), k + t = m → TakT μ k μ' →
    E G mX11_takeThen (Zq G mX11_takeThen (V0 (TakT μ m))) 0 0 2 [.ref 203, vi (m : Int), vi (k : Int)] [] (Hp μ')
  | 0, k, μ', hk, h1 => by
    have : k = m := by omega
    subst this
    refine E_iload_n dX11_takeThen_2 rfl ?_
    refine E_iload_n dX11_takeThen_3 rfl ?_
    refine E_icmp_ge 32 dX11_takeThen_4 (fun h4 => ?_) (fun h4 => ?_)
    · -- 32
      refine E_vret dX11_takeThen_32 ?_
      exact ⟨rfl, _, rfl, h1⟩
    · -- 7
      exfalso; omega
  | t + 1, k, μ', hk, h1 => by
    have ih := tt_loop hm t (k + 1)
    rw [show ((k + 1 : Nat) : Int) = (k : Int) + 1 by omega] at ih
    obtain ⟨g1, g2, g3⟩ := h1
    refine E_iload_n dX11_takeThen_2 rfl ?_
    refine E_iload_n dX11_takeThen_3 rfl ?_
    refine E_icmp_ge 32 dX11_takeThen_4 (fun h4 => ?_) (fun h4 => ?_)
    · -- 32
      exfalso; omega
    · -- 7
      refine E_aload_n dX11_takeThen_7 rfl ?_
      refine GX11_42 sk_203 dX11_takeThen_8 ?_
      refine E_iload_n dX11_takeThen_11 rfl ?_
      refine E_aload_n dX11_takeThen_12 rfl ?_
      refine GX11_45 sk_203 dX11_takeThen_13 ?_
      refine E_iload_n dX11_takeThen_16 rfl ?_
      refine H_lald sk_215 dX11_takeThen_17 ?_
      refine H_last sk_214 dX11_takeThen_18 ?_
      refine E_aload_n dX11_takeThen_19 rfl ?_
      refine GX11_45 sk_203 dX11_takeThen_20 ?_
      refine E_iload_n dX11_takeThen_23 rfl ?_
      refine E_lconst0 dX11_takeThen_24 ?_
      refine H_last sk_215 dX11_takeThen_25 ?_
      refine E_iinc dX11_takeThen_26 rfl ?_
      refine E_goto 2 dX11_takeThen_29 ?_
      refine ih _ (by omega) ⟨fun j j0 j1 => ?_, fun j j0 => ?_, fun q a b => by rw [up_ne q b, up_ne q a]; exact g3 q a b⟩
      · rw [up_ne 214 (by decide), up_r, up_r]
        by_cases e : j = (k : Int)
        · rw [if_pos e, if_pos e]; exact ⟨by rw [e]; exact g2 k (by omega), rfl⟩
        · rw [if_neg e, if_neg e, up_ne 215 (by decide)]; exact g1 j j0 (by omega)
      · rw [up_r, if_neg (by omega), up_ne 215 (by decide)]; exact g2 j (by omega)
theorem m_takeThen {m : Nat} (hm : m ≤ 12) : Ctr G mX11_takeThen [.ref 203, vi (m : Int)] (Hp μ) (V0 (TakT μ m)) := by
  refine Ctr.of ?_
  refine E_iconst dX11_takeThen_0 ?_
  refine E_istore_n dX11_takeThen_1 ?_
  exact tt_loop hm m 0 μ (by omega) ⟨fun j j0 j1 => by omega, fun _ _ => rfl, fun _ _ _ => rfl⟩
/-- what is given to the next ways by the elements of a list -/
def Giv (μ : Mem) (L : List Int) (μ' : Mem) : Prop := (∀ z : Int, 0 ≤ z → z < 6 → μ' 215 z = μ 215 z + stp (μ 214) L z) ∧ (∀ z : Int, 6 ≤ z → μ' 215 z = μ 215 z) ∧ ∀ q : Nat, q ≠ 215 → μ' q = μ q
theorem Giv.rf : Giv μ [] μ := ⟨fun z _ _ => by simp [stp], fun _ _ => rfl, fun _ _ => rfl⟩
theorem Giv.tr {μ1 μ2 : Mem} {L L' : List Int} (h : Giv μ L μ1) (h' : Giv μ1 L' μ2) : Giv μ (L ++ L') μ2 := by
  obtain ⟨a1, a2, a3⟩ := h
  obtain ⟨b1, b2, b3⟩ := h'
  refine ⟨fun z z0 z6 => ?_, fun z hz => by rw [b2 z hz, a2 z hz], fun q hq => by rw [b3 q hq, a3 q hq]⟩
  rw [b1 z z0 z6, a1 z z0 z6, a3 214 (by decide), stp_app]; omega
theorem give_loop {x : Int} (hx : 0 ≤ x ∧ x < 6) : ∀ (t k : Nat) (μ' : Mem), k + t = 6 → (∀ z : Int, 0 ≤ z → z < 6 → μ' 215 z = μ 215 z + sumN k (fun k => if tm k x = z then μ 214 k else 0)) → (∀ z : Int, 6 ≤ z → μ' 215 z = μ 215 z) → (∀ q : Nat, q ≠ 215 → μ' q = μ q) →
    E G mX11_give (Zq G mX11_give (V0 (Giv μ [x]))) 0 0 3 [.ref 203, vi x, vl 1, .retAddr 0, vi (k : Int)] [] (Hp μ')
  | 0, k, μ', hk, h1, h2, h3 => by
    have : k = 6 := by omega
    subst this
    refine E_iload dX11_give_3 rfl ?_
    refine E_bipush dX11_give_5 ?_
    refine E_icmp_ge 39 dX11_give_7 (fun h7 => ?_) (fun h7 => ?_)
    · -- 39
      refine E_vret dX11_give_39 ?_
      exact ⟨rfl, _, rfl, fun z z0 z6 => by rw [h1 z z0 z6]; simp [stp], h2, h3⟩
    · -- 10
      exfalso; omega
  | t + 1, k, μ', hk, h1, h2, h3 => by
    have ih := give_loop hx t (k + 1)
    rw [show ((k + 1 : Nat) : Int) = (k : Int) + 1 by omega] at ih
    have hr := tm_rng (x := k) (y := x)
    refine E_iload dX11_give_3 rfl ?_
    refine E_bipush dX11_give_5 ?_
    refine E_icmp_ge 39 dX11_give_7 (fun h7 => ?_) (fun h7 => ?_)
    · -- 39
      exfalso; omega
    · -- 10
      refine E_aload_n dX11_give_10 rfl ?_
      refine GX11_45 sk_203 dX11_give_11 ?_
      refine E_iload dX11_give_14 rfl ?_
      refine E_iload_n dX11_give_16 rfl ?_
      refine E_callSR dX11_give_17 lkX11_264 (m_times (x := k) (y := x) (by omega) hx) ?_
      refine E_dup2 dX11_give_20 ?_
      refine H_lald sk_215 dX11_give_21 ?_
      refine E_aload_n dX11_give_22 rfl ?_
      refine GX11_42 sk_203 dX11_give_23 ?_
      refine E_iload dX11_give_26 rfl ?_
      refine H_lald sk_214 dX11_give_28 ?_
      refine E_lload_n dX11_give_29 rfl ?_
      refine E_lmul dX11_give_30 ?_
      refine E_ladd dX11_give_31 ?_
      refine H_last sk_215 dX11_give_32 ?_
      refine E_iinc dX11_give_33 rfl ?_
      refine E_goto 3 dX11_give_36 ?_
      refine ih _ (by omega) (fun z z0 z6 => ?_) (fun z hz => by rw [up_r, if_neg (by omega)]; exact h2 z hz) (fun q hq => by rw [up_ne q hq]; exact h3 q hq)
      rw [up_r, sumN]
      by_cases e : z = tm k x
      · rw [if_pos e, if_pos e.symm, ← e, h1 z z0 z6, h3 214 (by decide), Int.mul_one]; omega
      · rw [if_neg e, if_neg (fun h => e h.symm), h1 z z0 z6]; omega
theorem m_give {x : Int} (hx : 0 ≤ x ∧ x < 6) : Ctr G mX11_give [.ref 203, vi x, vl 1] (Hp μ) (V0 (Giv μ [x])) := by
  refine Ctr.of ?_
  refine E_iconst dX11_give_0 ?_
  refine E_istore dX11_give_1 ?_
  exact give_loop hx 6 0 μ (by omega) (fun z _ _ => by simp [sumN]) (fun _ _ => rfl) (fun _ _ => rfl)
theorem inv_pw {x : Int} (hx : 0 ≤ x ∧ x < 6) : invT x = pw x (-1) := by
  rcases (show x = 0 ∨ x = 1 ∨ x = 2 ∨ x = 3 ∨ x = 4 ∨ x = 5 by omega) with rfl | rfl | rfl | rfl | rfl | rfl <;> decide
theorem g1_loop {h : Int} (hh : 0 ≤ h ∧ h < 6) : ∀ (t k : Nat) (μ' : Mem), k + t = 6 → Giv μ (lst (okC h) k) μ' →
    E G mX11_giveOne (Zq G mX11_giveOne (V0 (Giv μ (croL h)))) 0 0 2 [.ref 203, vi h, vi (k : Int)] [] (Hp μ')
  | 0, k, μ', hk, h1 => by
    have : k = 6 := by omega
    subst this
    refine E_iload_n dX11_giveOne_2 rfl ?_
    refine E_bipush dX11_giveOne_3 ?_
    refine E_icmp_ge 40 dX11_giveOne_5 (fun h5 => ?_) (fun h5 => ?_)
    · -- 40
      refine E_vret dX11_giveOne_40 ?_
      exact ⟨rfl, _, rfl, h1⟩
    · -- 8
      exfalso; omega
  | t + 1, k, μ', hk, h1 => by
    have ih := g1_loop hh t (k + 1)
    rw [show ((k + 1 : Nat) : Int) = (k : Int) + 1 by omega] at ih
    have kr : 0 ≤ (k : Int) ∧ (k : Int) < 6 := by omega
    have r1 := tm_rng (x := k) (y := h)
    have r2 := tm_rng (x := pw h (-1)) (y := k)
    have hin := m_inverted (G := G) (M := Hp μ') hh
    rw [inv_pw hh] at hin
    by_cases hc : tm k h = tm (pw h (-1)) k
    · have e : lst (okC h) (k + 1) = lst (okC h) k ++ [tm k k] := by rw [lst, show okC h k = [tm k k] from if_pos hc]
      rw [e] at ih
      refine E_iload_n dX11_giveOne_2 rfl ?_
      refine E_bipush dX11_giveOne_3 ?_
      refine E_icmp_ge 40 dX11_giveOne_5 (fun h5 => ?_) (fun h5 => ?_)
      · -- 40
        exfalso; omega
      · -- 8
        refine E_iload_n dX11_giveOne_8 rfl ?_
        refine E_iload_n dX11_giveOne_9 rfl ?_
        refine E_callSR dX11_giveOne_10 lkX11_264 (m_times kr hh) ?_
        refine E_iload_n dX11_giveOne_13 rfl ?_
        refine E_callSR dX11_giveOne_14 lkX11_283 (hin) ?_
        refine E_iload_n dX11_giveOne_17 rfl ?_
        refine E_callSR dX11_giveOne_18 lkX11_264 (m_times pw_rng kr) ?_
        refine E_icmp_ne 34 dX11_giveOne_21 (fun h21 => ?_) (fun h21 => ?_)
        · -- 34
          refine E_iinc dX11_giveOne_34 rfl ?_
          refine E_goto 2 dX11_giveOne_37 ?_
          first | (exfalso; omega) | exact ih μ2 (by omega) (h1.tr g2)
        · -- 24
          refine E_aload_n dX11_giveOne_24 rfl ?_
          refine E_iload_n dX11_giveOne_25 rfl ?_
          refine E_iload_n dX11_giveOne_26 rfl ?_
          refine E_callSR dX11_giveOne_27 lkX11_264 (m_times kr kr) ?_
          refine E_lconst1 dX11_giveOne_30 ?_
          refine E_callVV dX11_giveOne_31 lkX11_273 (Hp_get sk_203) (m_give tm_rng) ?_
          rintro μ2 g2
          refine E_iinc dX11_giveOne_34 rfl ?_
          refine E_goto 2 dX11_giveOne_37 ?_
          first | (exfalso; omega) | exact ih μ2 (by omega) (h1.tr g2)
    · have e : lst (okC h) (k + 1) = lst (okC h) k := by rw [lst, show okC h k = [] from if_neg hc, List.append_nil]
      rw [e] at ih
      refine E_iload_n dX11_giveOne_2 rfl ?_
      refine E_bipush dX11_giveOne_3 ?_
      refine E_icmp_ge 40 dX11_giveOne_5 (fun h5 => ?_) (fun h5 => ?_)
      · -- 40
        exfalso; omega
      · -- 8
        refine E_iload_n dX11_giveOne_8 rfl ?_
        refine E_iload_n dX11_giveOne_9 rfl ?_
        refine E_callSR dX11_giveOne_10 lkX11_264 (m_times kr hh) ?_
        refine E_iload_n dX11_giveOne_13 rfl ?_
        refine E_callSR dX11_giveOne_14 lkX11_283 (hin) ?_
        refine E_iload_n dX11_giveOne_17 rfl ?_
        refine E_callSR dX11_giveOne_18 lkX11_264 (m_times pw_rng kr) ?_
        refine E_icmp_ne 34 dX11_giveOne_21 (fun h21 => ?_) (fun h21 => ?_)
        · -- 34
          refine E_iinc dX11_giveOne_34 rfl ?_
          refine E_goto 2 dX11_giveOne_37 ?_
          exact ih μ' (by omega) h1
        · -- 24
          exfalso; omega
theorem m_giveOne {h : Int} (hh : 0 ≤ h ∧ h < 6) : Ctr G mX11_giveOne [.ref 203, vi h] (Hp μ) (V0 (Giv μ (croL h))) := by
  refine Ctr.of ?_
  refine E_iconst dX11_giveOne_0 ?_
  refine E_istore_n dX11_giveOne_1 ?_
  exact g1_loop hh 6 0 μ (by omega) Giv.rf
theorem g2_inner {h : Int} {Q : QT} (hh : 0 ≤ h ∧ h < 6) (x : Nat) (hx : x < 6) (L : List Int) (hk : ∀ μ2 : Mem, Giv μ (L ++ lst (okH h x) 6) μ2 → E G mX11_giveTwo (Zq G mX11_giveTwo Q) 0 0 62 [.ref 203, vi h, vi (x : Int), vi 6] [] (Hp μ2)) : ∀ (t k : Nat) (μ' : Mem), k + t = 6 → Giv μ (L ++ lst (okH h x) k) μ' →
    E G mX11_giveTwo (Zq G mX11_giveTwo Q) 0 0 10 [.ref 203, vi h, vi (x : Int), vi (k : Int)] [] (Hp μ')
  | 0, k, μ', e1, h1 => by
    have : k = 6 := by omega
    subst this
    refine E_iload_n dX11_giveTwo_10 rfl ?_
    refine E_bipush dX11_giveTwo_11 ?_
    refine E_icmp_ge 62 dX11_giveTwo_13 (fun h13 => ?_) (fun h13 => ?_)
    · -- 62
      exact hk μ' h1
    · -- 16
      exfalso; omega
  | t + 1, k, μ', e1, h1 => by
    have ih := g2_inner hh x hx L hk t (k + 1)
    rw [show ((k + 1 : Nat) : Int) = (k : Int) + 1 by omega] at ih
    have kr : 0 ≤ (k : Int) ∧ (k : Int) < 6 := by omega
    have xr : 0 ≤ (x : Int) ∧ (x : Int) < 6 := by omega
    have hix := m_inverted (G := G) (M := Hp μ') xr
    rw [inv_pw xr] at hix
    have hik := m_inverted (G := G) (M := Hp μ') kr
    rw [inv_pw kr] at hik
    have hcx := m_commute (G := G) (M := Hp μ') xr hh
    have hck := m_commute (G := G) (M := Hp μ') kr hh
    by_cases q1 : tm x h = tm h x
    · rw [if_pos q1] at hcx
      by_cases q2 : tm k h = tm h k
      · rw [if_pos q2] at hck
        have e : L ++ lst (okH h x) (k + 1) = (L ++ lst (okH h x) k) ++ [comm2 x k] := by rw [lst, show okH h x k = [comm2 x k] from if_pos ⟨q1, q2⟩, List.append_assoc]
        rw [e] at ih
        refine E_iload_n dX11_giveTwo_10 rfl ?_
        refine E_bipush dX11_giveTwo_11 ?_
        refine E_icmp_ge 62 dX11_giveTwo_13 (fun h13 => ?_) (fun h13 => ?_)
        · -- 62
          exfalso; omega
        · -- 16
          refine E_iload_n dX11_giveTwo_16 rfl ?_
          refine E_iload_n dX11_giveTwo_17 rfl ?_
          refine E_callSR dX11_giveTwo_18 lkX11_267 (hcx) ?_
          refine E_if_eq 56 dX11_giveTwo_21 (fun h21 => ?_) (fun h21 => ?_)
          · -- 56
            refine E_iinc dX11_giveTwo_56 rfl ?_
            refine E_goto 10 dX11_giveTwo_59 ?_
            first | (exfalso; omega) | exact ih μ2 (by omega) (h1.tr g2)
          · -- 24
            refine E_iload_n dX11_giveTwo_24 rfl ?_
            refine E_iload_n dX11_giveTwo_25 rfl ?_
            refine E_callSR dX11_giveTwo_26 lkX11_267 (hck) ?_
            refine E_if_eq 56 dX11_giveTwo_29 (fun h29 => ?_) (fun h29 => ?_)
            · -- 56
              refine E_iinc dX11_giveTwo_56 rfl ?_
              refine E_goto 10 dX11_giveTwo_59 ?_
              first | (exfalso; omega) | exact ih μ2 (by omega) (h1.tr g2)
            · -- 32
              refine E_aload_n dX11_giveTwo_32 rfl ?_
              refine E_iload_n dX11_giveTwo_33 rfl ?_
              refine E_iload_n dX11_giveTwo_34 rfl ?_
              refine E_callSR dX11_giveTwo_35 lkX11_264 (m_times xr kr) ?_
              refine E_iload_n dX11_giveTwo_38 rfl ?_
              refine E_callSR dX11_giveTwo_39 lkX11_283 (hix) ?_
              refine E_iload_n dX11_giveTwo_42 rfl ?_
              refine E_callSR dX11_giveTwo_43 lkX11_283 (hik) ?_
              refine E_callSR dX11_giveTwo_46 lkX11_264 (m_times pw_rng pw_rng) ?_
              refine E_callSR dX11_giveTwo_49 lkX11_264 (m_times tm_rng tm_rng) ?_
              refine E_lconst1 dX11_giveTwo_52 ?_
              refine E_callVV dX11_giveTwo_53 lkX11_273 (Hp_get sk_203) (m_give tm_rng) ?_
              rintro μ2 g2
              refine E_iinc dX11_giveTwo_56 rfl ?_
              refine E_goto 10 dX11_giveTwo_59 ?_
              first | (exfalso; omega) | exact ih μ2 (by omega) (h1.tr g2)
      · rw [if_neg q2] at hck
        have e : lst (okH h x) (k + 1) = lst (okH h x) k := by rw [lst, show okH h x k = [] from if_neg (fun h => q2 h.2), List.append_nil]
        rw [e] at ih
        refine E_iload_n dX11_giveTwo_10 rfl ?_
        refine E_bipush dX11_giveTwo_11 ?_
        refine E_icmp_ge 62 dX11_giveTwo_13 (fun h13 => ?_) (fun h13 => ?_)
        · -- 62
          exfalso; omega
        · -- 16
          refine E_iload_n dX11_giveTwo_16 rfl ?_
          refine E_iload_n dX11_giveTwo_17 rfl ?_
          refine E_callSR dX11_giveTwo_18 lkX11_267 (hcx) ?_
          refine E_if_eq 56 dX11_giveTwo_21 (fun h21 => ?_) (fun h21 => ?_)
          · -- 56
            refine E_iinc dX11_giveTwo_56 rfl ?_
            refine E_goto 10 dX11_giveTwo_59 ?_
            exact ih μ' (by omega) h1
          · -- 24
            refine E_iload_n dX11_giveTwo_24 rfl ?_
            refine E_iload_n dX11_giveTwo_25 rfl ?_
            refine E_callSR dX11_giveTwo_26 lkX11_267 (hck) ?_
            refine E_if_eq 56 dX11_giveTwo_29 (fun h29 => ?_) (fun h29 => ?_)
            · -- 56
              refine E_iinc dX11_giveTwo_56 rfl ?_
              refine E_goto 10 dX11_giveTwo_59 ?_
              exact ih μ' (by omega) h1
            · -- 32
              exfalso; omega
    · rw [if_neg q1] at hcx
      have e : lst (okH h x) (k + 1) = lst (okH h x) k := by rw [lst, show okH h x k = [] from if_neg (fun h => q1 h.1), List.append_nil]
      rw [e] at ih
      refine E_iload_n dX11_giveTwo_10 rfl ?_
      refine E_bipush dX11_giveTwo_11 ?_
      refine E_icmp_ge 62 dX11_giveTwo_13 (fun h13 => ?_) (fun h13 => ?_)
      · -- 62
        exfalso; omega
      · -- 16
        refine E_iload_n dX11_giveTwo_16 rfl ?_
        refine E_iload_n dX11_giveTwo_17 rfl ?_
        refine E_callSR dX11_giveTwo_18 lkX11_267 (hcx) ?_
        refine E_if_eq 56 dX11_giveTwo_21 (fun h21 => ?_) (fun h21 => ?_)
        · -- 56
          refine E_iinc dX11_giveTwo_56 rfl ?_
          refine E_goto 10 dX11_giveTwo_59 ?_
          exact ih μ' (by omega) h1
        · -- 24
          exfalso; omega
theorem g2_loop {h : Int} (hh : 0 ≤ h ∧ h < 6) : ∀ (t x : Nat) (μ' : Mem) (w : Value), x + t = 6 → Giv μ (lst (fun x => lst (okH h x) 6) x) μ' →
    E G mX11_giveTwo (Zq G mX11_giveTwo (V0 (Giv μ (hanL h)))) 0 0 2 [.ref 203, vi h, vi (x : Int), w] [] (Hp μ')
  | 0, x, μ', w, hk, h1 => by
    have : x = 6 := by omega
    subst this
    refine E_iload_n dX11_giveTwo_2 rfl ?_
    refine E_bipush dX11_giveTwo_3 ?_
    refine E_icmp_ge 68 dX11_giveTwo_5 (fun h5 => ?_) (fun h5 => ?_)
    · -- 68
      refine E_vret dX11_giveTwo_68 ?_
      exact ⟨rfl, _, rfl, h1⟩
    · -- 8
      exfalso; omega
  | t + 1, x, μ', w, hk, h1 => by
    have ih := g2_loop hh t (x + 1)
    rw [show ((x + 1 : Nat) : Int) = (x : Int) + 1 by omega] at ih
    refine E_iload_n dX11_giveTwo_2 rfl ?_
    refine E_bipush dX11_giveTwo_3 ?_
    refine E_icmp_ge 68 dX11_giveTwo_5 (fun h5 => ?_) (fun h5 => ?_)
    · -- 68
      exfalso; omega
    · -- 8
      refine E_iconst dX11_giveTwo_8 ?_
      refine E_istore_n dX11_giveTwo_9 ?_
      refine g2_inner (μ := μ) hh x (by omega) (lst (fun x => lst (okH h x) 6) x) (fun μ2 g => ?_) 6 0 μ' (by omega) (by rw [show lst (okH h x) 0 = [] from rfl, List.append_nil]; exact h1)
      exact E_iinc dX11_giveTwo_62 rfl (E_goto 2 dX11_giveTwo_65 (ih μ2 _ (by omega) g))
theorem m_giveTwo {h : Int} (hh : 0 ≤ h ∧ h < 6) : Ctr G mX11_giveTwo [.ref 203, vi h] (Hp μ) (V0 (Giv μ (hanL h))) := by
  refine Ctr.of ?_
  refine E_iconst dX11_giveTwo_0 ?_
  refine E_istore_n dX11_giveTwo_1 ?_
  exact g2_loop hh 6 0 μ _ (by omega) Giv.rf
end MWAYS
