/-! the law's loop, the start -/
section LOOP
variable {nm : String} {G : GT} {Z : ZT}
theorem law_step {i : Int} {μ : Mem} {σ : St} (ih : ∀ μ' σ', Inv μ' σ' → E G (mN nm) Z 219 2466 944 (lsL i) [] (Hp μ')) (hi : 0 ≤ i ∧ i + 4 ≤ gN G) (hN : gN G ≤ 2048) (hI : Inv μ σ) : E G (mN nm) Z 219 2466 26 (lsL i) [] (Hp μ) := by
  refine E_aload_s dL_law_26 rfl (E_iload_n dL_law_27 rfl (E_sld dL_law_28 (by omega) (by omega) (by omega) (E_bipush dL_law_29 ?_)))
  refine E_iand (Int32.ofInt (gX G i.toNat).toInt &&& Int32.ofInt 31).toInt dL_law_31 (Int32.ofInt_toInt _).symm ?_
  have hr : -2147483648 ≤ (Int32.ofInt (gX G i.toNat).toInt &&& Int32.ofInt 31).toInt ∧ (Int32.ofInt (gX G i.toNat).toInt &&& Int32.ofInt 31).toInt < 2147483648 := by
    have h1 := Int32.le_toInt (Int32.ofInt (gX G i.toNat).toInt &&& Int32.ofInt 31)
    have h2 := Int32.toInt_lt (Int32.ofInt (gX G i.toNat).toInt &&& Int32.ofInt 31)
    omega
  generalize (Int32.ofInt (gX G i.toNat).toInt &&& Int32.ofInt 31).toInt = u at hr
  by_cases hu : u < 0 ∨ 26 < u
  · exact E_tout 944 dL_law_32 hr hu rfl (ih μ σ hI)
  rcases (show u = 0 ∨ u = 1 ∨ u = 2 ∨ u = 3 ∨ u = 4 ∨ u = 5 ∨ u = 6 ∨ u = 7 ∨ u = 8 ∨ u = 9 ∨ u = 10 ∨ u = 11 ∨ u = 12 ∨ u = 13 ∨ u = 14 ∨ u = 15 ∨ u = 16 ∨ u = 17 ∨ u = 18 ∨ u = 19 ∨ u = 20 ∨ u = 21 ∨ u = 22 ∨ u = 23 ∨ u = 24 ∨ u = 25 ∨ u = 26 by omega) with rfl | rfl | rfl | rfl | rfl | rfl | rfl | rfl | rfl | rfl | rfl | rfl | rfl | rfl | rfl | rfl | rfl | rfl | rfl | rfl | rfl | rfl | rfl | rfl | rfl | rfl | rfl
  · exact E_tin 156 dL_law_32 (by omega) (by omega) (by omega) rfl rfl (law_type ih hi hN hI)
  · exact E_tin 179 dL_law_32 (by omega) (by omega) (by omega) rfl rfl (law_clear ih hi hN hI)
  · exact E_tin 192 dL_law_32 (by omega) (by omega) (by omega) rfl rfl (law_tells ih hi hN hI)
  · exact E_tin 215 dL_law_32 (by omega) (by omega) (by omega) rfl rfl (law_mirrors ih hi hN hI)
  · exact E_tin 238 dL_law_32 (by omega) (by omega) (by omega) rfl rfl (law_joins ih hi hN hI)
  · exact E_tin 281 dL_law_32 (by omega) (by omega) (by omega) rfl rfl (law_fills ih hi hN hI)
  · exact E_tin 324 dL_law_32 (by omega) (by omega) (by omega) rfl rfl (law_drills ih hi hN hI)
  · exact E_tin 357 dL_law_32 (by omega) (by omega) (by omega) rfl rfl (law_turnsOn ih hi hN hI)
  · exact E_tin 390 dL_law_32 (by omega) (by omega) (by omega) rfl rfl (law_unwraps ih hi hN hI)
  · exact E_tin 423 dL_law_32 (by omega) (by omega) (by omega) rfl rfl (law_unrolls ih hi hN hI)
  · exact E_tin 456 dL_law_32 (by omega) (by omega) (by omega) rfl rfl (law_undo ih hi hN hI)
  · exact E_tin 469 dL_law_32 (by omega) (by omega) (by omega) rfl rfl (law_space ih hi hN hI)
  · exact E_tin 503 dL_law_32 (by omega) (by omega) (by omega) rfl rfl (law_fibre ih hi hN hI)
  · exact E_tin 546 dL_law_32 (by omega) (by omega) (by omega) rfl rfl (law_euler ih hi hN hI)
  · exact E_tin 580 dL_law_32 (by omega) (by omega) (by omega) rfl rfl (law_over ih hi hN hI)
  · exact E_tin 614 dL_law_32 (by omega) (by omega) (by omega) rfl rfl (law_like ih hi hN hI)
  · exact E_tin 647 dL_law_32 (by omega) (by omega) (by omega) rfl rfl (law_torsion ih hi hN hI)
  · exact E_tin 681 dL_law_32 (by omega) (by omega) (by omega) rfl rfl (law_maps ih hi hN hI)
  · exact E_tin 715 dL_law_32 (by omega) (by omega) (by omega) rfl rfl (law_threes ih hi hN hI)
  · exact E_tin 739 dL_law_32 (by omega) (by omega) (by omega) rfl rfl (law_lens ih hi hN hI)
  · exact E_tin 773 dL_law_32 (by omega) (by omega) (by omega) rfl rfl (law_sees ih hi hN hI)
  · exact E_tin 836 dL_law_32 (by omega) (by omega) (by omega) rfl rfl (law_forget ih hi hN hI)
  · exact E_tin 849 dL_law_32 (by omega) (by omega) (by omega) rfl rfl (law_which ih hi hN hI)
  · exact E_tin 862 dL_law_32 (by omega) (by omega) (by omega) rfl rfl (law_ask ih hi hN hI)
  · exact E_tin 875 dL_law_32 (by omega) (by omega) (by omega) rfl rfl (law_keep ih hi hN hI)
  · exact E_tin 898 dL_law_32 (by omega) (by omega) (by omega) rfl rfl (law_back ih hi hN hI)
  · exact E_tin 921 dL_law_32 (by omega) (by omega) (by omega) rfl rfl (law_count ih hi hN hI)
theorem law_loop (hN : gN G ≤ 2048) (hZ : ∀ (ls : List Value) (μ : Mem), E G (mN nm) Z 219 2466 951 ls [vi 1] (Hp μ)) : ∀ (t : Nat) (i : Int) (μ : Mem) (σ : St), 0 ≤ i → i ≤ 2052 → (gN G : Int) ≤ i + 4 * t → Inv μ σ → E G (mN nm) Z 219 2466 18 (lsL i) [] (Hp μ)
  | 0, i, μ, σ, h0, h1, h2, hI => by
    refine E_iload_n dL_law_18 rfl (E_aload_s dL_law_19 rfl (E_slen dL_law_20 (E_iconst dL_law_21 (E_isub dL_law_22 ?_))))
    refine E_icmp_gt 950 dL_law_23 (fun _ => E_iconst dL_law_950 (hZ _ _)) (fun q => by exfalso; omega)
  | t + 1, i, μ, σ, h0, h1, h2, hI => by
    refine E_iload_n dL_law_18 rfl (E_aload_s dL_law_19 rfl (E_slen dL_law_20 (E_iconst dL_law_21 (E_isub dL_law_22 ?_))))
    refine E_icmp_gt 950 dL_law_23 (fun _ => E_iconst dL_law_950 (hZ _ _)) (fun q => ?_)
    refine law_step (fun μ' σ' hI' => ?_) ⟨h0, by omega⟩ hN hI
    refine E_iinc dL_law_944 rfl (E_goto 18 dL_law_947 ?_) (hn := Nat.le_of_ble_eq_true rfl)
    exact law_loop hN hZ t (i + 4) μ' σ' (by omega) (by omega) (by omega) hI'
end LOOP
def z0 : Mem := fun _ _ => 0
set_option maxRecDepth 100000 in
theorem heap0 : obB ++ moB 203 = Hp z0 := by
  rw [Hp_eq, SK_eq]
  rfl
theorem inv0 : Inv z0 st0 := by
  refine ⟨g_st0, ⟨fun i hi => ⟨rfl, rfl, rfl, rfl, rfl, fun k x hx => by simp [st0, sp0] at hx⟩, ⟨0, by omega, rfl, rfl, by simp [st0], fun j sh hj => by simp [st0] at hj⟩, fun k hk => ⟨fun _ => rfl, fun g hg => by simp [st0] at hg⟩, ⟨rfl, by simp [st0], fun k x hx => by simp [st0] at hx⟩, ⟨rfl, by simp [st0], fun k x hx => by simp [st0] at hx, fun k x hx => by simp [st0] at hx⟩⟩, ?_⟩
  exact ⟨fun i hi => ⟨rfl, rfl, rfl, rfl, fun k x hx => by simp [st0, sp0] at hx⟩, ⟨rfl, fun j p hj => by simp [st0] at hj⟩, fun k hk => ⟨fun _ => rfl, fun g hg => by simp [st0] at hg⟩, ⟨rfl, by simp [st0], fun k x hx => by simp [st0] at hx⟩, ⟨rfl, by simp [st0], fun k x hx => by simp [st0] at hx, fun k x hx => by simp [st0] at hx⟩, fun _ _ _ => rfl⟩
theorem obB_len : obB.length = 203 := by simp [obB, obS_len, shB_len]
theorem law_E {nm : String} {G : GT} {Z : ZT} (hN : gN G ≤ 2048) (hZ : ∀ (ls : List Value) (μ : Mem), E G (mN nm) Z 219 2466 951 ls [vi 1] (Hp μ)) : E G (mN nm) Z 0 0 0 [.retAddr 1, .retAddr 0, .retAddr 0, .retAddr 0] [] [] := by
  refine E_new (ci := 9) (ty := tyX10) [.null, .null, .null, .null, .null, .null, .null, .null, .null, .null, .null, .null] dL_law_0 rfl inX10 tyX10_ok clL_7 iaX10 iniX10 (by decide +kernel) (fun G => rfl) ?_ (hr1 := Nat.le_of_ble_eq_true rfl) (hr2 := Nat.le_of_ble_eq_true rfl)
  refine E_dup dL_law_3 ?_
  refine E_callI (y' := mX10_init) dL_law_4 lkL_9 i_X10 (fun v M' hv => ?_) (hr1 := Nat.le_of_ble_eq_true rfl) (hr2 := Nat.le_of_ble_eq_true rfl)
  obtain ⟨rfl, rfl⟩ := hv
  refine E_astore_n dL_law_7 (hn := Nat.le_of_ble_eq_true rfl) ?_
  refine E_new (ci := 10) (ty := tyX11) [.null, .null, vi 0, .null, .null, vi 0, vi 0, vi 0, vi 0, .null, .null, .null, vi 0, vi 0, vi 0, vi 0, vi 0, vi 0, vl 0, vl 0, .null, vi 0, .null, .null, .null, .null, vl 0, vl 0, vi 0, .null, .null, .null] dL_law_8 rfl inX11 tyX11_ok clL_10 iaX11 iniX11 (by decide +kernel) (fun G => rfl) ?_ (hr1 := Nat.le_of_ble_eq_true rfl) (hr2 := Nat.le_of_ble_eq_true rfl)
  refine E_dup dL_law_11 ?_
  refine E_callI (y' := mX11_init) dL_law_12 lkL_12 (i_X11 (P := obB)) (fun v M' hv => ?_) (hr1 := Nat.le_of_ble_eq_true rfl) (hr2 := Nat.le_of_ble_eq_true rfl)
  obtain ⟨rfl, rfl⟩ := hv
  rw [obB_len, heap0]
  refine E_astore_n dL_law_15 (hn := Nat.le_of_ble_eq_true rfl) (E_iconst dL_law_16 (E_istore_n dL_law_17 (hn := Nat.le_of_ble_eq_true rfl) ?_))
  exact law_loop hN hZ 512 0 z0 st0 (by omega) (by omega) (by omega) inv0
