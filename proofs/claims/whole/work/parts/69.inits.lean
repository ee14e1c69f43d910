/-! constructors of the parts -/
def shsB (q : Nat) : Nat → HV
  | 0 => []
  | n + 1 => shsB q n ++ shB (q + 20 * n)
theorem shB_len (q : Nat) : (shB q).length = 20 := by simp [shB, spsB_len]
theorem shsB_len (q : Nat) : ∀ n, (shsB q n).length = 20 * n
  | 0 => rfl
  | n + 1 => by simp [shsB, shsB_len q n, shB_len]; omega
def hiB (q : Nat) : HV := zc (11, 3, [q + 1]) :: rfC 3 6 (rfB (q + 2) 20 6) :: shsB (q + 2) 6
section INITH
variable {G : GT} {P : HV}
theorem i_hl : ∀ (t i : Nat), i + t = 6 → E G mX1_init (Zq G mX1_init (fun v M' => v = none ∧ M' = P ++ hiB P.length)) (1 + 20 * i) (6 + 121 * i) 15 [.ref P.length, vi (i : Int)] [] (P ++ zc (11, 3, [P.length + 1]) :: rfC 3 6 (rfB (P.length + 2) 20 i) :: shsB (P.length + 2) i)
  | 0, i, e => by
    have : i = 6 := by omega
    subst this
    refine E_iload_n dX1_init_15 rfl (E_bipush dX1_init_16 (E_icmp_ge 40 dX1_init_18 (fun _ => ?_) (fun q => by exfalso; omega)))
    exact E_vret dX1_init_40 ⟨rfl, rfl⟩
  | t + 1, i, e => by
    have ih := i_hl t (i + 1) (by omega)
    rw [show ((i + 1 : Nat) : Int) = (i : Int) + 1 by omega, show 1 + 20 * (i + 1) = 1 + 20 * i + 1 + 19 by omega, show 6 + 121 * (i + 1) = 6 + 121 * i + 1 + 120 by omega] at ih
    have m6 : iM mX1_init = 121 := rfl
    have s6 : iS mX1_init = 732 := rfl
    refine E_iload_n dX1_init_15 rfl (E_bipush dX1_init_16 (E_icmp_ge 40 dX1_init_18 (fun q => by exfalso; omega) (fun _ => ?_)))
    refine E_aload_n dX1_init_21 rfl (E_get (ci := 1) (kf := 0) dX1_init_22 rfl inX1 (by decide) flX1_11 R_at rfl ?_)
    refine E_iload_n dX1_init_25 rfl ?_
    have hlen : (P ++ zc (11, 3, [P.length + 1]) :: rfC 3 6 (rfB (P.length + 2) 20 i) :: shsB (P.length + 2) i).length = P.length + 2 + 20 * i := by simp [shsB_len]; omega
    generalize hM : P ++ zc (11, 3, [P.length + 1]) :: rfC 3 6 (rfB (P.length + 2) 20 i) :: shsB (P.length + 2) i = M1 at hlen
    refine E_new (ci := 5) (ty := tyX6) [.null] dX1_init_26 rfl inX6 tyX6_ok clX1_9 iaX6 iniX6 (by decide +kernel) (fun G => rfl) ?_ (by omega) (by omega)
    refine E_dup dX1_init_29 ?_
    refine E_callI (y' := mX6_init) dX1_init_30 lkX1_17 (i_X6 (P := M1)) (fun v M' hv => ?_) rfl rfl ⟨Nat.le_of_ble_eq_true rfl, Nat.le_of_ble_eq_true rfl⟩ (Nat.le_of_ble_eq_true rfl) (by show 1 + 20 * i + 1 + 19 ≤ 121; omega) (by show 6 + 121 * i + 1 + 120 ≤ 732; omega)
    obtain ⟨rfl, rfl⟩ := hv
    have hsp : shB M1.length = shB (P.length + 2 + 20 * i) := by rw [hlen]
    have e1 : M1 ++ shB M1.length = (P ++ [zc (11, 3, [P.length + 1])]) ++ rfC 3 6 (rfB (P.length + 2) 20 i) :: shsB (P.length + 2) (i + 1) := by
      rw [hsp, ← hM]; simp [shsB]
    have hat : (M1 ++ shB M1.length)[M1.length]? = some (zc (15, 1, [M1.length + 1])) := R_at
    refine R_aastE (y := mX1_init) (pc := 33) (t := 3) (q := (RX6, TX6, 1)) (ci := 5) e1 (by simp) (by rw [rfB_len]) dX1_init_33 rfl hat rfl (by rw [rfB_len]; omega) (by omega) ?_
    refine E_iinc dX1_init_34 rfl (E_goto 15 dX1_init_37 ?_)
    rw [hlen]
    have e3 : (P ++ [zc (11, 3, [P.length + 1])]) ++ rfC 3 6 (rfB (P.length + 2) 20 i ++ [P.length + 2 + 20 * i]) :: shsB (P.length + 2) (i + 1) = P ++ zc (11, 3, [P.length + 1]) :: rfC 3 6 (rfB (P.length + 2) 20 (i + 1)) :: shsB (P.length + 2) (i + 1) := by simp [rfB]
    rw [e3]
    exact ih
def hiD : va_E := .inr (1, [.null, vi 0, vi 0])
theorem i_X1 : Ctr G mX1_init [.ref P.length] (P ++ [hiD]) (fun v M' => v = none ∧ M' = P ++ hiB P.length) := by
  refine Ctr.of ?_
  refine E_aload_n dX1_init_0 rfl (E_objinit dX1_init_1 oiX1_3 oi_1 oi_2 ?_)
  refine E_aload_n dX1_init_4 rfl (E_bipush dX1_init_5 (R_newq (t := 3) (N := 6) (C := "FibredSpaces$Shelf") dX1_init_7 clX1_9 (fun U h => h.2.2.2.2.2.2.2.1) rfl (by omega) ?_))
  refine R_putF (ci := 1) (kf := 0) (.array (.object "FibredSpaces$Shelf")) dX1_init_10 rfl inX1 tyX1_ok nmX1 (by decide) flX1_11 rfl rfl rfl (by decide +kernel) rfl rfl (by decide) (R := [rfC 3 6 []]) ?_
  refine E_iconst dX1_init_13 (E_istore_n dX1_init_14 ?_)
  exact i_hl 6 0 (by omega)
def teD : va_E := .inr (8, [.null, vi 0, vi 0, vi 0, vi 0, vi 0, vi 0, vi 0, vi 0])
def teB (q : Nat) : HV := [zc (18, 9, [q + 1]), zc (0, 100, [])]
theorem i_X9 : Ctr G mX9_init [.ref P.length] (P ++ [teD]) (fun v M' => v = none ∧ M' = P ++ teB P.length) := by
  refine Ctr.of ?_
  refine E_aload_n dX9_init_0 rfl (E_objinit dX9_init_1 oiX9_3 oi_1 oi_2 ?_)
  refine E_aload_n dX9_init_4 rfl (E_bipush dX9_init_5 (R_newi (N := 100) dX9_init_7 (by omega) ?_))
  refine R_putF (ci := 8) (kf := 0) (.array .int) dX9_init_9 rfl inX9 tyX9_ok nmX9 (by decide) flX9_9 rfl rfl rfl (by decide +kernel) rfl rfl (by decide) (R := [zc (0, 100, [])]) ?_
  exact E_vret dX9_init_12 ⟨rfl, rfl⟩
def siD : va_E := .inr (6, [.null, .null, vi 0])
def siB (q : Nat) : HV := [zc (16, 3, [q + 1, q + 2]), zc (0, 6, []), zc (1, 6, [])]
theorem i_X7 : Ctr G mX7_init [.ref P.length] (P ++ [siD]) (fun v M' => v = none ∧ M' = P ++ siB P.length) := by
  refine Ctr.of ?_
  refine E_aload_n dX7_init_0 rfl (E_objinit dX7_init_1 oiX7_3 oi_1 oi_2 ?_)
  refine E_aload_n dX7_init_4 rfl (E_bipush dX7_init_5 (R_newi (N := 6) dX7_init_7 (by omega) ?_))
  refine R_putF (ci := 6) (kf := 0) (.array .int) dX7_init_9 rfl inX7 tyX7_ok nmX7 (by decide) flX7_9 rfl rfl rfl (by decide +kernel) rfl rfl (by decide) (R := [zc (0, 6, [])]) ?_
  refine E_aload_n dX7_init_12 rfl (E_bipush dX7_init_13 (R_newl (N := 6) dX7_init_15 (by omega) ?_))
  refine R_putF (ci := 6) (kf := 1) (.array .long) dX7_init_17 rfl inX7 tyX7_ok nmX7 (by decide) flX7_15 rfl rfl rfl (by decide +kernel) rfl rfl (by simp) (R := [zc (0, 6, []), zc (1, 6, [])]) ?_
  exact E_vret dX7_init_20 ⟨rfl, rfl⟩
def hoD : va_E := .inr (2, [.null, .null, vi 0, vi 0])
def hoB (q : Nat) : HV := [zc (12, 4, [q + 1, q + 2]), zc (1, 6, []), zc (1, 8, [])]
theorem i_X2 : Ctr G mX2_init [.ref P.length] (P ++ [hoD]) (fun v M' => v = none ∧ M' = P ++ hoB P.length) := by
  refine Ctr.of ?_
  refine E_aload_n dX2_init_0 rfl (E_objinit dX2_init_1 oiX2_3 oi_1 oi_2 ?_)
  refine E_aload_n dX2_init_4 rfl (E_bipush dX2_init_5 (R_newl (N := 6) dX2_init_7 (by omega) ?_))
  refine R_putF (ci := 2) (kf := 0) (.array .long) dX2_init_9 rfl inX2 tyX2_ok nmX2 (by decide) flX2_9 rfl rfl rfl (by decide +kernel) rfl rfl (by decide) (R := [zc (1, 6, [])]) ?_
  refine E_aload_n dX2_init_12 rfl (E_bipush dX2_init_13 (R_newl (N := 8) dX2_init_15 (by omega) ?_))
  refine R_putF (ci := 2) (kf := 1) (.array .long) dX2_init_17 rfl inX2 tyX2_ok nmX2 (by decide) flX2_15 rfl rfl rfl (by decide +kernel) rfl rfl (by simp) (R := [zc (1, 6, []), zc (1, 8, [])]) ?_
  exact E_vret dX2_init_20 ⟨rfl, rfl⟩
def frB : va_E := zc (10, 2, [])
theorem i_X0 : Ctr G mX0_init [.ref P.length] (P ++ [frB]) (fun v M' => v = none ∧ M' = P ++ [frB]) := by
  refine Ctr.of ?_
  refine E_aload_n dX0_init_0 rfl (E_objinit dX0_init_1 oiX0_1 oi_1 oi_2 ?_)
  exact E_vret dX0_init_4 ⟨rfl, rfl⟩
def leB : va_E := zc (13, 2, [])
theorem i_X3 : Ctr G mX3_init [.ref P.length] (P ++ [leB]) (fun v M' => v = none ∧ M' = P ++ [leB]) := by
  refine Ctr.of ?_
  refine E_aload_n dX3_init_0 rfl (E_objinit dX3_init_1 oiX3_1 oi_1 oi_2 ?_)
  exact E_vret dX3_init_4 ⟨rfl, rfl⟩
def peD : va_E := .inr (4, [.null, .null, .null])
def peB (q : Nat) : HV := [zc (14, 3, [q + 1, q + 2, q + 3]), zc (1, 6, []), zc (1, 6, []), zc (1, 6, [])]
theorem i_X5 : Ctr G mX5_init [.ref P.length] (P ++ [peD]) (fun v M' => v = none ∧ M' = P ++ peB P.length) := by
  refine Ctr.of ?_
  refine E_aload_n dX5_init_0 rfl (E_objinit dX5_init_1 oiX5_1 oi_1 oi_2 ?_)
  refine E_aload_n dX5_init_4 rfl (E_bipush dX5_init_5 (R_newl (N := 6) dX5_init_7 (by omega) ?_))
  refine R_putF (ci := 4) (kf := 0) (.array .long) dX5_init_9 rfl inX5 tyX5_ok nmX5 (by decide) flX5_9 rfl rfl rfl (by decide +kernel) rfl rfl (by decide) (R := [zc (1, 6, [])]) ?_
  refine E_aload_n dX5_init_12 rfl (E_bipush dX5_init_13 (R_newl (N := 6) dX5_init_15 (by omega) ?_))
  refine R_putF (ci := 4) (kf := 1) (.array .long) dX5_init_17 rfl inX5 tyX5_ok nmX5 (by decide) flX5_13 rfl rfl rfl (by decide +kernel) rfl rfl (by simp) (R := [zc (1, 6, []), zc (1, 6, [])]) ?_
  refine E_aload_n dX5_init_20 rfl (E_bipush dX5_init_21 (R_newl (N := 6) dX5_init_23 (by omega) ?_))
  refine R_putF (ci := 4) (kf := 2) (.array .long) dX5_init_25 rfl inX5 tyX5_ok nmX5 (by decide) flX5_16 rfl rfl rfl (by decide +kernel) rfl rfl (by simp) (R := [zc (1, 6, []), zc (1, 6, []), zc (1, 6, [])]) ?_
  exact E_vret dX5_init_28 ⟨rfl, rfl⟩
end INITH
