/-! FibredSpacesModel: exchanges of three -/
section MTHREES
variable {G : GT} {μ : Mem} {M : HV} {σ : St}
theorem m_times {x y : Int} (hx : 0 ≤ x ∧ x < 6) (hy : 0 ≤ y ∧ y < 6) : Ctr G mX11_times [vi x, vi y] M (R1 (vi (tm x y)) M) := by
  refine Ctr.of ?_
  have e1 : (x + y).tmod 3 = (x + y) % 3 := Int.tmod_eq_emod_of_nonneg (by omega)
  have e2 : (x - y + 9).tmod 3 = (x - y + 9) % 3 := Int.tmod_eq_emod_of_nonneg (by omega)
  refine E_iload_n dX11_times_0 rfl ?_
  refine E_iconst dX11_times_1 ?_
  refine E_icmp_ge 11 dX11_times_2 (fun h2 => ?_) (fun h2 => ?_)
  · -- 11
    refine E_iload_n dX11_times_11 rfl ?_
    refine E_iload_n dX11_times_12 rfl ?_
    refine E_isub dX11_times_13 ?_
    refine E_bipush dX11_times_14 ?_
    refine E_iadd dX11_times_16 ?_
    refine E_istore_n dX11_times_17 ?_
    refine E_iload_n dX11_times_18 rfl ?_
    refine E_iconst dX11_times_19 ?_
    refine E_irem dX11_times_20 ?_
    refine E_iload_n dX11_times_21 rfl ?_
    refine E_iconst dX11_times_22 ?_
    refine E_icmp_ge 30 dX11_times_23 (fun h23 => ?_) (fun h23 => ?_)
    · -- 30
      refine E_iconst dX11_times_30 ?_
      refine E_iload_n dX11_times_31 rfl ?_
      refine E_iconst dX11_times_32 ?_
      refine E_icmp_ge 40 dX11_times_33 (fun h33 => ?_) (fun h33 => ?_)
      · -- 40
        refine E_iconst dX11_times_40 ?_
        refine E_icmp_ne 48 dX11_times_41 (fun h41 => ?_) (fun h41 => ?_)
        · -- 48
          refine E_iconst dX11_times_48 ?_
          refine E_iadd dX11_times_49 ?_
          refine E_iret dX11_times_50 ?_
          refine ⟨congrArg (fun z => some (vi z)) ?_, rfl⟩
          unfold tm
          first | (exfalso; omega) | (repeat' split) <;> omega
        · -- 44
          refine E_iconst dX11_times_44 ?_
          refine E_goto 49 dX11_times_45 ?_
          refine E_iadd dX11_times_49 ?_
          refine E_iret dX11_times_50 ?_
          refine ⟨congrArg (fun z => some (vi z)) ?_, rfl⟩
          unfold tm
          first | (exfalso; omega) | (repeat' split) <;> omega
      · -- 36
        refine E_iconst dX11_times_36 ?_
        refine E_goto 41 dX11_times_37 ?_
        refine E_icmp_ne 48 dX11_times_41 (fun h41 => ?_) (fun h41 => ?_)
        · -- 48
          refine E_iconst dX11_times_48 ?_
          refine E_iadd dX11_times_49 ?_
          refine E_iret dX11_times_50 ?_
          refine ⟨congrArg (fun z => some (vi z)) ?_, rfl⟩
          unfold tm
          first | (exfalso; omega) | (repeat' split) <;> omega
        · -- 44
          refine E_iconst dX11_times_44 ?_
          refine E_goto 49 dX11_times_45 ?_
          refine E_iadd dX11_times_49 ?_
          refine E_iret dX11_times_50 ?_
          refine ⟨congrArg (fun z => some (vi z)) ?_, rfl⟩
          unfold tm
          first | (exfalso; omega) | (repeat' split) <;> omega
    · -- 26
      refine E_iconst dX11_times_26 ?_
      refine E_goto 31 dX11_times_27 ?_
      refine E_iload_n dX11_times_31 rfl ?_
      refine E_iconst dX11_times_32 ?_
      refine E_icmp_ge 40 dX11_times_33 (fun h33 => ?_) (fun h33 => ?_)
      · -- 40
        refine E_iconst dX11_times_40 ?_
        refine E_icmp_ne 48 dX11_times_41 (fun h41 => ?_) (fun h41 => ?_)
        · -- 48
          refine E_iconst dX11_times_48 ?_
          refine E_iadd dX11_times_49 ?_
          refine E_iret dX11_times_50 ?_
          refine ⟨congrArg (fun z => some (vi z)) ?_, rfl⟩
          unfold tm
          first | (exfalso; omega) | (repeat' split) <;> omega
        · -- 44
          refine E_iconst dX11_times_44 ?_
          refine E_goto 49 dX11_times_45 ?_
          refine E_iadd dX11_times_49 ?_
          refine E_iret dX11_times_50 ?_
          refine ⟨congrArg (fun z => some (vi z)) ?_, rfl⟩
          unfold tm
          first | (exfalso; omega) | (repeat' split) <;> omega
      · -- 36
        refine E_iconst dX11_times_36 ?_
        refine E_goto 41 dX11_times_37 ?_
        refine E_icmp_ne 48 dX11_times_41 (fun h41 => ?_) (fun h41 => ?_)
        · -- 48
          refine E_iconst dX11_times_48 ?_
          refine E_iadd dX11_times_49 ?_
          refine E_iret dX11_times_50 ?_
          refine ⟨congrArg (fun z => some (vi z)) ?_, rfl⟩
          unfold tm
          first | (exfalso; omega) | (repeat' split) <;> omega
        · -- 44
          refine E_iconst dX11_times_44 ?_
          refine E_goto 49 dX11_times_45 ?_
          refine E_iadd dX11_times_49 ?_
          refine E_iret dX11_times_50 ?_
          refine ⟨congrArg (fun z => some (vi z)) ?_, rfl⟩
          unfold tm
          first | (exfalso; omega) | (repeat' split) <;> omega
  · -- 5
    refine E_iload_n dX11_times_5 rfl ?_
    refine E_iload_n dX11_times_6 rfl ?_
    refine E_iadd dX11_times_7 ?_
    refine E_goto 17 dX11_times_8 ?_
    refine E_istore_n dX11_times_17 ?_
    refine E_iload_n dX11_times_18 rfl ?_
    refine E_iconst dX11_times_19 ?_
    refine E_irem dX11_times_20 ?_
    refine E_iload_n dX11_times_21 rfl ?_
    refine E_iconst dX11_times_22 ?_
    refine E_icmp_ge 30 dX11_times_23 (fun h23 => ?_) (fun h23 => ?_)
    · -- 30
      refine E_iconst dX11_times_30 ?_
      refine E_iload_n dX11_times_31 rfl ?_
      refine E_iconst dX11_times_32 ?_
      refine E_icmp_ge 40 dX11_times_33 (fun h33 => ?_) (fun h33 => ?_)
      · -- 40
        refine E_iconst dX11_times_40 ?_
        refine E_icmp_ne 48 dX11_times_41 (fun h41 => ?_) (fun h41 => ?_)
        · -- 48
          refine E_iconst dX11_times_48 ?_
          refine E_iadd dX11_times_49 ?_
          refine E_iret dX11_times_50 ?_
          refine ⟨congrArg (fun z => some (vi z)) ?_, rfl⟩
          unfold tm
          first | (exfalso; omega) | (repeat' split) <;> omega
        · -- 44
          refine E_iconst dX11_times_44 ?_
          refine E_goto 49 dX11_times_45 ?_
          refine E_iadd dX11_times_49 ?_
          refine E_iret dX11_times_50 ?_
          refine ⟨congrArg (fun z => some (vi z)) ?_, rfl⟩
          unfold tm
          first | (exfalso; omega) | (repeat' split) <;> omega
      · -- 36
        refine E_iconst dX11_times_36 ?_
        refine E_goto 41 dX11_times_37 ?_
        refine E_icmp_ne 48 dX11_times_41 (fun h41 => ?_) (fun h41 => ?_)
        · -- 48
          refine E_iconst dX11_times_48 ?_
          refine E_iadd dX11_times_49 ?_
          refine E_iret dX11_times_50 ?_
          refine ⟨congrArg (fun z => some (vi z)) ?_, rfl⟩
          unfold tm
          first | (exfalso; omega) | (repeat' split) <;> omega
        · -- 44
          refine E_iconst dX11_times_44 ?_
          refine E_goto 49 dX11_times_45 ?_
          refine E_iadd dX11_times_49 ?_
          refine E_iret dX11_times_50 ?_
          refine ⟨congrArg (fun z => some (vi z)) ?_, rfl⟩
          unfold tm
          first | (exfalso; omega) | (repeat' split) <;> omega
    · -- 26
      refine E_iconst dX11_times_26 ?_
      refine E_goto 31 dX11_times_27 ?_
      refine E_iload_n dX11_times_31 rfl ?_
      refine E_iconst dX11_times_32 ?_
      refine E_icmp_ge 40 dX11_times_33 (fun h33 => ?_) (fun h33 => ?_)
      · -- 40
        refine E_iconst dX11_times_40 ?_
        refine E_icmp_ne 48 dX11_times_41 (fun h41 => ?_) (fun h41 => ?_)
        · -- 48
          refine E_iconst dX11_times_48 ?_
          refine E_iadd dX11_times_49 ?_
          refine E_iret dX11_times_50 ?_
          refine ⟨congrArg (fun z => some (vi z)) ?_, rfl⟩
          unfold tm
          first | (exfalso; omega) | (repeat' split) <;> omega
        · -- 44
          refine E_iconst dX11_times_44 ?_
          refine E_goto 49 dX11_times_45 ?_
          refine E_iadd dX11_times_49 ?_
          refine E_iret dX11_times_50 ?_
          refine ⟨congrArg (fun z => some (vi z)) ?_, rfl⟩
          unfold tm
          first | (exfalso; omega) | (repeat' split) <;> omega
      · -- 36
        refine E_iconst dX11_times_36 ?_
        refine E_goto 41 dX11_times_37 ?_
        refine E_icmp_ne 48 dX11_times_41 (fun h41 => ?_) (fun h41 => ?_)
        · -- 48
          refine E_iconst dX11_times_48 ?_
          refine E_iadd dX11_times_49 ?_
          refine E_iret dX11_times_50 ?_
          refine ⟨congrArg (fun z => some (vi z)) ?_, rfl⟩
          unfold tm
          first | (exfalso; omega) | (repeat' split) <;> omega
        · -- 44
          refine E_iconst dX11_times_44 ?_
          refine E_goto 49 dX11_times_45 ?_
          refine E_iadd dX11_times_49 ?_
          refine E_iret dX11_times_50 ?_
          refine ⟨congrArg (fun z => some (vi z)) ?_, rfl⟩
          unfold tm
          first | (exfalso; omega) | (repeat' split) <;> omega
theorem m_power {x e : Int} (hx : 0 ≤ x ∧ x < 6) (he : -2147483648 ≤ e ∧ e < 2147483648) : Ctr G mX11_power [vi x, vi e] M (R1 (vi (pw x e)) M) := by
  refine Ctr.of ?_
  have r1 := Int.emod_nonneg e (show (6 : Int) ≠ 0 by decide)
  have r2 := Int.emod_lt_of_pos e (show (0 : Int) < 6 by decide)
  have hl := m_left (G := G) (M := M) (x := e) (z := 6) (by omega) (by omega)
  have lp : ∀ (t k : Nat), k + t = (e % 6).toNat → E G mX11_power (Zq G mX11_power (R1 (vi (pw x e)) M)) 0 0 4 [vi x, vi e, vi (pwN x k), vi (k : Int)] [] M := by
    intro t
    induction t with
    | zero =>
      intro k hk
      have hk2 : k = (e % 6).toNat := by omega
      subst hk2
      refine E_iload_n dX11_power_4 rfl ?_
      refine E_iload_n dX11_power_5 rfl ?_
      refine E_bipush dX11_power_6 ?_
      refine E_callSR dX11_power_8 lkX11_79 (hl) ?_
      refine E_icmp_ge 26 dX11_power_11 (fun h11 => ?_) (fun h11 => ?_)
      · -- 26
        refine E_iload_n dX11_power_26 rfl ?_
        refine E_iret dX11_power_27 ?_
        exact ⟨rfl, rfl⟩
      · -- 14
        exfalso; omega
    | succ t ih =>
      intro k hk
      have hr := pwN_rng (x := x) k
      have t2 := ih (k + 1) (by omega)
      rw [show ((k + 1 : Nat) : Int) = (k : Int) + 1 by omega] at t2
      refine E_iload_n dX11_power_4 rfl ?_
      refine E_iload_n dX11_power_5 rfl ?_
      refine E_bipush dX11_power_6 ?_
      refine E_callSR dX11_power_8 lkX11_79 (hl) ?_
      refine E_icmp_ge 26 dX11_power_11 (fun h11 => ?_) (fun h11 => ?_)
      · -- 26
        exfalso; omega
      · -- 14
        refine E_iload_n dX11_power_14 rfl ?_
        refine E_iload_n dX11_power_15 rfl ?_
        refine E_callSR dX11_power_16 lkX11_264 (m_times hr hx) ?_
        refine E_istore_n dX11_power_19 ?_
        refine E_iinc dX11_power_20 rfl ?_
        refine E_goto 4 dX11_power_23 ?_
        exact t2
  refine E_iconst dX11_power_0 ?_
  refine E_istore_n dX11_power_1 ?_
  refine E_iconst dX11_power_2 ?_
  refine E_istore_n dX11_power_3 ?_
  exact lp (e % 6).toNat 0 (by omega)
end MTHREES
