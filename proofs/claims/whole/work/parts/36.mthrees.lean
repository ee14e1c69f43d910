/-! FibredSpacesModel: exchanges of three -/
section MTHREES
variable {G : GT} {μ : Mem} {M : HV} {σ : St}
theorem m_times {x y : Int} (hx : 0 ≤ x ∧ x < 6) (hy : 0 ≤ y ∧ y < 6) : Ctr G mX11_times [vi x, vi y] M (R1 (vi (tm x y)) M) := by
  refine Ctr.of ?_
  have e1 : (x + y).tmod 3 = (x + y) % 3 := Int.tmod_eq_emod_of_nonneg (by omega)
  have e2 : (x - y + 9).tmod 3 = (x - y + 9) % 3 := Int.tmod_eq_emod_of_nonneg (by omega)
  refine E_iload_n dX11_times_0 rfl ?_
  refine E_iconst dX11_times_1 ?_
  refine E_icmp_ge 11 dX11_times_2 (fun h2 => ?_) (fun h2 => ?_)
  · -- 11
    refine E_iload_n dX11_times_11 rfl ?_
    refine E_iload_n dX11_times_12 rfl ?_
    refine E_isub dX11_times_13 ?_
    refine E_bipush dX11_times_14 ?_
    refine E_iadd dX11_times_16 ?_
    refine E_istore_n dX11_times_17 ?_
    refine E_iload_n dX11_times_18 rfl ?_
    refine E_iconst dX11_times_19 ?_
    refine E_irem dX11_times_20 ?_
    refine E_iload_n dX11_times_21 rfl ?_
    refine E_iconst dX11_times_22 ?_
    refine E_icmp_ge 30 dX11_times_23 (fun h23 => ?_) (fun h23 => ?_)
    · -- 30
      refine E_iconst dX11_times_30 ?_
      refine E_iload_n dX11_times_31 rfl ?_
      refine E_iconst dX11_times_32 ?_
      refine E_icmp_ge 40 dX11_times_33 (fun h33 => ?_) (fun h33 => ?_)
      · -- 40
        refine E_iconst dX11_times_40 ?_
        refine E_icmp_ne 48 dX11_times_41 (fun h41 => ?_) (fun h41 => ?_)
        · -- 48
          refine E_iconst dX11_times_48 ?_
          refine E_iadd dX11_times_49 ?_
          refine E_iret dX11_times_50 ?_
          refine ⟨congrArg (fun z => some (vi z)) ?_, rfl⟩
          unfold tm
          first | (exfalso; omega) | (repeat' split) <;> omega
        · -- 44
          refine E_iconst dX11_times_44 ?_
          refine E_goto 49 dX11_times_45 ?_
          refine E_iadd dX11_times_49 ?_
          refine E_iret dX11_times_50 ?_
          refine ⟨congrArg (fun z => some (vi z)) ?_, rfl⟩
          unfold tm
          first | (exfalso; omega) | (repeat' split) <;> omega
      · -- 36
        refine E_iconst dX11_times_36 ?_
        refine E_goto 41 dX11_times_37 ?_
        refine E_icmp_ne 48 dX11_times_41 (fun h41 => ?_) (fun h41 => ?_)
        · -- 48
          refine E_iconst dX11_times_48 ?_
          refine E_iadd dX11_times_49 ?_
          refine E_iret dX11_times_50 ?_
          refine ⟨congrArg (fun z => some (vi z)) ?_, rfl⟩
          unfold tm
          first | (exfalso; omega) | (repeat' split) <;> omega
        · -- 44
          refine E_iconst dX11_times_44 ?_
          refine E_goto 49 dX11_times_45 ?_
          refine E_iadd dX11_times_49 ?_
          refine E_iret dX11_times_50 ?_
          refine ⟨congrArg (fun z => some (vi z)) ?_, rfl⟩
          unfold tm
          first | (exfalso; omega) | (repeat' split) <;> omega
    · -- 26
      refine E_iconst dX11_times_26 ?_
      refine E_goto 31 dX11_times_27 ?_
      refine E_iload_n dX11_times_31 rfl ?_
      refine E_iconst dX11_times_32 ?_
      refine E_icmp_ge 40 dX11_times_33 (fun h33 => ?_) (fun h33 => ?_)
      · -- 40
        refine E_iconst dX11_times_40 ?_
        refine E_icmp_ne 48 dX11_times_41 (fun h41 => ?_) (fun h41 => ?_)
        · -- 48
          refine E_iconst dX11_times_48 ?_
          refine E_iadd dX11_times_49 ?_
          refine E_iret dX11_times_50 ?_
          refine ⟨congrArg (fun z => some (vi z)) ?_, rfl⟩
          unfold tm
          first | (exfalso; omega) | (repeat' split) <;> omega
        · -- 44
          refine E_iconst dX11_times_44 ?_
          refine E_goto 49 dX11_times_45 ?_
          refine E_iadd dX11_times_49 ?_
          refine E_iret dX11_times_50 ?_
          refine ⟨congrArg (fun z => some (vi z)) ?_, rfl⟩
          unfold tm
          first | (exfalso; omega) | (repeat' split) <;> omega
      · -- 36
        refine E_iconst dX11_times_36 ?_
        refine E_goto 41 dX11_times_37 ?_
        refine E_icmp_ne 48 dX11_times_41 (fun h41 => ?_) (fun h41 => ?_)
        · -- 48
          refine E_iconst dX11_times_48 ?_
          refine E_iadd dX11_times_49 ?_
          refine E_iret dX11_times_50 ?_
          refine ⟨congrArg (fun z => some (vi z)) ?_, rfl⟩
          unfold tm
          first | (exfalso; omega) | (repeat' split) <;> omega
        · -- 44
          refine E_iconst dX11_times_44 ?_
          refine E_goto 49 dX11_times_45 ?_
          refine E_iadd dX11_times_49 ?_
          refine E_iret dX11_times_50 ?_
          refine ⟨congrArg (fun z => some (vi z)) ?_, rfl⟩
          unfold tm
          first | (exfalso; omega) | (repeat' split) <;> omega
  · -- 5
    refine E_iload_n dX11_times_5 rfl ?_
    refine E_iload_n dX11_times_6 rfl ?_
    refine E_iadd dX11_times_7 ?_
    refine E_goto 17 dX11_times_8 ?_
    refine E_istore_n dX11_times_17 ?_
    refine E_iload_n dX11_times_18 rfl ?_
    refine E_iconst dX11_times_19 ?_
    refine E_irem dX11_times_20 ?_
    refine E_iload_n dX11_times_21 rfl ?_
    refine E_iconst dX11_times_22 ?_
    refine E_icmp_ge 30 dX11_times_23 (fun h23 => ?_) (fun h23 => ?_)
    · -- 30
      refine E_iconst dX11_times_30 ?_
      refine E_iload_n dX11_times_31 rfl ?_
      refine E_iconst dX11_times_32 ?_
      refine E_icmp_ge 40 dX11_times_33 (fun h33 => ?_) (fun h33 => ?_)
      · -- 40
        refine E_iconst dX11_times_40 ?_
        refine E_icmp_ne 48 dX11_times_41 (fun h41 => ?_) (fun h41 => ?_)
        · -- 48
          refine E_iconst dX11_times_48 ?_
          refine E_iadd dX11_times_49 ?_
          refine E_iret dX11_times_50 ?_
          refine ⟨congrArg (fun z => some (vi z)) ?_, rfl⟩
          unfold tm
          first | (exfalso; omega) | (repeat' split) <;> omega
        · -- 44
          refine E_iconst dX11_times_44 ?_
          refine E_goto 49 dX11_times_45 ?_
          refine E_iadd dX11_times_49 ?_
          refine E_iret dX11_times_50 ?_
          refine ⟨congrArg (fun z => some (vi z)) ?_, rfl⟩
          unfold tm
          first | (exfalso; omega) | (repeat' split) <;> omega
      · -- 36
        refine E_iconst dX11_times_36 ?_
        refine E_goto 41 dX11_times_37 ?_
        refine E_icmp_ne 48 dX11_times_41 (fun h41 => ?_) (fun h41 => ?_)
        · -- 48
          refine E_iconst dX11_times_48 ?_
          refine E_iadd dX11_times_49 ?_
          refine E_iret dX11_times_50 ?_
          refine ⟨congrArg (fun z => some (vi z)) ?_, rfl⟩
          unfold tm
          first | (exfalso; omega) | (repeat' split) <;> omega
        · -- 44
          refine E_iconst dX11_times_44 ?_
          refine E_goto 49 dX11_times_45 ?_
          refine E_iadd dX11_times_49 ?_
          refine E_iret dX11_times_50 ?_
          refine ⟨congrArg (fun z => some (vi z)) ?_, rfl⟩
          unfold tm
          first | (exfalso; omega) | (repeat' split) <;> omega
    · -- 26
      refine E_iconst dX11_times_26 ?_
      refine E_goto 31 dX11_times_27 ?_
      refine E_iload_n dX11_times_31 rfl ?_
      refine E_iconst dX11_times_32 ?_
      refine E_icmp_ge 40 dX11_times_33 (fun h33 => ?_) (fun h33 => ?_)
      · -- 40
        refine E_iconst dX11_times_40 ?_
        refine E_icmp_ne 48 dX11_times_41 (fun h41 => ?_) (fun h41 => ?_)
        · -- 48
          refine E_iconst dX11_times_48 ?_
          refine E_iadd dX11_times_49 ?_
          refine E_iret dX11_times_50 ?_
          refine ⟨congrArg (fun z => some (vi z)) ?_, rfl⟩
          unfold tm
          first | (exfalso; omega) | (repeat' split) <;> omega
        · -- 44
          refine E_iconst dX11_times_44 ?_
          refine E_goto 49 dX11_times_45 ?_
          refine E_iadd dX11_times_49 ?_
          refine E_iret dX11_times_50 ?_
          refine ⟨congrArg (fun z => some (vi z)) ?_, rfl⟩
          unfold tm
          first | (exfalso; omega) | (repeat' split) <;> omega
      · -- 36
        refine E_iconst dX11_times_36 ?_
        refine E_goto 41 dX11_times_37 ?_
        refine E_icmp_ne 48 dX11_times_41 (fun h41 => ?_) (fun h41 => ?_)
        · -- 48
          refine E_iconst dX11_times_48 ?_
          refine E_iadd dX11_times_49 ?_
          refine E_iret dX11_times_50 ?_
          refine ⟨congrArg (fun z => some (vi z)) ?_, rfl⟩
          unfold tm
          first | (exfalso; omega) | (repeat' split) <;> omega
        · -- 44
          refine E_iconst dX11_times_44 ?_
          refine E_goto 49 dX11_times_45 ?_
          refine E_iadd dX11_times_49 ?_
          refine E_iret dX11_times_50 ?_
          refine ⟨congrArg (fun z => some (vi z)) ?_, rfl⟩
          unfold tm
          first | (exfalso; omega) | (repeat' split) <;> omega
theorem m_power {x e : Int} (hx : 0 ≤ x ∧ x < 6) (he : -2147483648 ≤ e ∧ e < 2147483648) : Ctr G mX11_power [vi x, vi e] M (R1 (vi (pw x e)) M) := by
  refine Ctr.of ?_
  have r1 := Int.emod_nonneg e (show (6 : Int) ≠ 0 by decide)
  have r2 := Int.emod_lt_of_pos e (show (0 : Int) < 6 by decide)
  have hl := m_left (G := G) (M := M) (x := e) (z := 6) (by omega) (by omega)
  have lp : ∀ (t k : Nat), k + t = (e % 6).toNat → E G mX11_power (Zq G mX11_power (R1 (vi (pw x e)) M)) 0 0 4 [vi x, vi e, vi (pwN x k), vi (k : Int)] [] M := by
    intro t
    induction t with
    | zero =>
      intro k hk
      have hk2 : k = (e % 6).toNat := by omega
      subst hk2
      refine E_iload_n dX11_power_4 rfl ?_
      refine E_iload_n dX11_power_5 rfl ?_
      refine E_bipush dX11_power_6 ?_
      refine E_callSR dX11_power_8 lkX11_79 (hl) ?_
      refine E_icmp_ge 26 dX11_power_11 (fun h11 => ?_) (fun h11 => ?_)
      · -- 26
        refine E_iload_n dX11_power_26 rfl ?_
        refine E_iret dX11_power_27 ?_
        exact ⟨rfl, rfl⟩
      · -- 14
        exfalso; omega
    | succ t ih =>
      intro k hk
      have hr := pwN_rng (x := x) k
      have t2 := ih (k + 1) (by omega)
      rw [show ((k + 1 : Nat) : Int) = (k : Int) + 1 by omega] at t2
      refine E_iload_n dX11_power_4 rfl ?_
      refine E_iload_n dX11_power_5 rfl ?_
      refine E_bipush dX11_power_6 ?_
      refine E_callSR dX11_power_8 lkX11_79 (hl) ?_
      refine E_icmp_ge 26 dX11_power_11 (fun h11 => ?_) (fun h11 => ?_)
      · -- 26
        exfalso; omega
      · -- 14
        refine E_iload_n dX11_power_14 rfl ?_
        refine E_iload_n dX11_power_15 rfl ?_
        refine E_callSR dX11_power_16 lkX11_264 (m_times hr hx) ?_
        refine E_istore_n dX11_power_19 ?_
        refine E_iinc dX11_power_20 rfl ?_
        refine E_goto 4 dX11_power_23 ?_
        exact t2
  refine E_iconst dX11_power_0 ?_
  refine E_istore_n dX11_power_1 ?_
  refine E_iconst dX11_power_2 ?_
  refine E_istore_n dX11_power_3 ?_
  exact lp (e % 6).toNat 0 (by omega)
end MTHREES
section MTHREES2
variable {G : GT} {μ : Mem} {M : HV} {σ : St}
def invT (x : Int) : Int := if x < 3 then (3 - x) % 3 else x
theorem m_inverted {x : Int} (hx : 0 ≤ x ∧ x < 6) : Ctr G mX11_inverted [vi x] M (R1 (vi (invT x)) M) := by
  refine Ctr.of ?_
  have e1 : x < 3 → (3 - x).tmod 3 = (3 - x) % 3 := fun h => Int.tmod_eq_emod_of_nonneg (by omega)
  refine E_iload_n dX11_inverted_0 rfl ?_
  refine E_iconst dX11_inverted_1 ?_
  refine E_icmp_ge 13 dX11_inverted_2 (fun h2 => ?_) (fun h2 => ?_)
  · -- 13
    refine E_iload_n dX11_inverted_13 rfl ?_
    refine E_iret dX11_inverted_14 ?_
    refine ⟨congrArg (fun z => some (vi z)) ?_, rfl⟩
    unfold invT
    first | (rw [if_pos (by omega)]; exact e1 (by omega)) | rw [if_neg (by omega)]
  · -- 5
    refine E_iconst dX11_inverted_5 ?_
    refine E_iload_n dX11_inverted_6 rfl ?_
    refine E_isub dX11_inverted_7 ?_
    refine E_iconst dX11_inverted_8 ?_
    refine E_irem dX11_inverted_9 ?_
    refine E_goto 14 dX11_inverted_10 ?_
    refine E_iret dX11_inverted_14 ?_
    refine ⟨congrArg (fun z => some (vi z)) ?_, rfl⟩
    unfold invT
    first | (rw [if_pos (by omega)]; exact e1 (by omega)) | rw [if_neg (by omega)]
theorem m_commute {x y : Int} (hx : 0 ≤ x ∧ x < 6) (hy : 0 ≤ y ∧ y < 6) : Ctr G mX11_commute [vi x, vi y] M (R1 (vi (if tm x y = tm y x then 1 else 0)) M) := by
  refine Ctr.of ?_
  have r1 := tm_rng (x := x) (y := y)
  have r2 := tm_rng (x := y) (y := x)
  refine E_iload_n dX11_commute_0 rfl ?_
  refine E_iload_n dX11_commute_1 rfl ?_
  refine E_callSR dX11_commute_2 lkX11_264 (m_times hx hy) ?_
  refine E_iload_n dX11_commute_5 rfl ?_
  refine E_iload_n dX11_commute_6 rfl ?_
  refine E_callSR dX11_commute_7 lkX11_264 (m_times hy hx) ?_
  refine E_icmp_ne 17 dX11_commute_10 (fun h10 => ?_) (fun h10 => ?_)
  · -- 17
    refine E_iconst dX11_commute_17 ?_
    refine E_zret dX11_commute_18 ?_ (by first | exact Or.inl rfl | exact Or.inr rfl | omega)
    first | (rw [if_pos (by assumption)]; exact ⟨rfl, rfl⟩) | (rw [if_neg (by assumption)]; exact ⟨rfl, rfl⟩)
  · -- 13
    refine E_iconst dX11_commute_13 ?_
    refine E_goto 18 dX11_commute_14 ?_
    refine E_zret dX11_commute_18 ?_ (by first | exact Or.inl rfl | exact Or.inr rfl | omega)
    first | (rw [if_pos (by assumption)]; exact ⟨rfl, rfl⟩) | (rw [if_neg (by assumption)]; exact ⟨rfl, rfl⟩)
end MTHREES2
