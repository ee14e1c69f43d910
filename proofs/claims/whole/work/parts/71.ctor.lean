/-! the constructor of FibredSpaces -/
def obD : va_E := .inr (9, [.null, .null, .null, .null, .null, .null, .null, .null, .null, .null, .null, .null])
def obS (rs : List Nat) : HV := shB 1 ++ hiB 21 ++ [rfC 3 2 rs] ++ [zc (2, 2, [])] ++ teB 145 ++ siB 147 ++ spB 150 ++ hoB 153 ++ [frB] ++ peB 157 ++ [leB] ++ [zc (1, 6, [])]
def ob0 : va_E := zc (19, 12, [1, 21, 143, 144, 145, 147, 150, 153, 156, 157, 161, 162])
def obB : HV := ob0 :: (obS [163, 183] ++ shB 163 ++ shB 183)
theorem hiB_len (q : Nat) : (hiB q).length = 122 := by simp [hiB, shsB_len]
theorem obS_len (rs : List Nat) : (obS rs).length = 162 := by simp [obS, shB_len, hiB_len, teB, siB, spB, hoB, peB]
section INITX
variable {G : GT}
def qO : QT := fun v M' => v = none ∧ M' = obB

theorem i_ob2 : E G mX10_init (Zq G mX10_init qO) 202 1294 128 [.ref 0, vi 2] [] obB := by
  refine E_iload_n dX10_init_128 rfl (E_iconst dX10_init_129 (E_icmp_ge 152 dX10_init_130 (fun _ => ?_) (fun q => by exfalso; omega)))
  exact E_vret dX10_init_152 ⟨rfl, rfl⟩
theorem i_obs {k n : Nat} (i : Nat) (rs : List Nat) (R : HV) (hi : i < 2) (hrs : rs.length = i) (hR : R.length = 20 * i) (hk : k + 1 + 19 ≤ 202) (hn : n + 1 + 120 ≤ 1294) (h : E G mX10_init (Zq G mX10_init qO) (k + 1 + 19) (n + 1 + 120) 128 [.ref 0, vi ((i : Int) + 1)] [] (ob0 :: (obS (rs ++ [163 + 20 * i]) ++ (R ++ shB (163 + 20 * i))))) : E G mX10_init (Zq G mX10_init qO) k n 128 [.ref 0, vi (i : Int)] [] (ob0 :: (obS rs ++ R)) := by
  have m6 : iM mX10_init = 202 := rfl
  have s6 : iS mX10_init = 1294 := rfl
  refine E_iload_n dX10_init_128 rfl (E_iconst dX10_init_129 (E_icmp_ge 152 dX10_init_130 (fun q => by exfalso; omega) (fun _ => ?_)))
  refine E_aload_n dX10_init_133 rfl (E_get (ci := 9) (kf := 2) dX10_init_134 rfl inX10 (by decide) flX10_23 rfl rfl ?_)
  refine E_iload_n dX10_init_137 rfl ?_
  have hlen : (ob0 :: (obS rs ++ R)).length = 163 + 20 * i := by simp [obS_len, hR]; omega
  generalize hM : ob0 :: (obS rs ++ R) = M1 at hlen
  refine E_new (ci := 5) (ty := tyX6) [.null] dX10_init_138 rfl inX6 tyX6_ok clX10_7 iaX6 iniX6 (by decide +kernel) (fun G => rfl) ?_ (by omega) (by omega)
  refine E_dup dX10_init_141 ?_
  refine E_callI (y' := mX6_init) dX10_init_142 lkX10_9 (i_X6 (P := M1)) (fun v M' hv => ?_) rfl rfl ⟨Nat.le_of_ble_eq_true rfl, Nat.le_of_ble_eq_true rfl⟩ (Nat.le_of_ble_eq_true rfl) (by show k + 1 + 19 ≤ 202; omega) (by show n + 1 + 120 ≤ 1294; omega)
  obtain ⟨rfl, rfl⟩ := hv
  have hat : (M1 ++ shB M1.length)[M1.length]? = some (zc (15, 1, [M1.length + 1])) := R_at
  have e1 : M1 ++ shB M1.length = (ob0 :: (shB 1 ++ hiB 21)) ++ rfC 3 2 rs :: ([zc (2, 2, [])] ++ teB 145 ++ siB 147 ++ spB 150 ++ hoB 153 ++ [frB] ++ peB 157 ++ [leB] ++ [zc (1, 6, [])] ++ (R ++ shB (163 + 20 * i))) := by
    rw [hlen, ← hM]; simp only [obS, List.append_assoc, List.cons_append, List.nil_append]
  refine R_aastE (y := mX10_init) (pc := 145) (t := 3) (q := (RX6, TX6, 1)) (ci := 5) e1 (by simp [shB_len, hiB_len]) (by rw [hrs]) dX10_init_145 rfl hat rfl (by omega) (by omega) ?_
  refine E_iinc dX10_init_146 rfl (E_goto 128 dX10_init_149 ?_)
  rw [hlen]
  have e3 : (ob0 :: (shB 1 ++ hiB 21)) ++ rfC 3 2 (rs ++ [163 + 20 * i]) :: ([zc (2, 2, [])] ++ teB 145 ++ siB 147 ++ spB 150 ++ hoB 153 ++ [frB] ++ peB 157 ++ [leB] ++ [zc (1, 6, [])] ++ (R ++ shB (163 + 20 * i))) = ob0 :: (obS (rs ++ [163 + 20 * i]) ++ (R ++ shB (163 + 20 * i))) := by
    simp only [obS, List.append_assoc, List.cons_append, List.nil_append]
  rw [e3]
  exact h
theorem i_ob0 : E G mX10_init (Zq G mX10_init qO) 162 1052 128 [.ref 0, vi 0] [] (ob0 :: obS []) := by
  have h := i_obs (G := G) (k := 162) (n := 1052) 0 [] [] (by omega) rfl rfl (by omega) (by omega)
  rw [List.append_nil] at h
  refine h ?_
  refine i_obs (G := G) (k := 182) (n := 1173) 1 [163] (shB 163) (by omega) rfl (shB_len _) (by omega) (by omega) ?_
  exact i_ob2
theorem i_X10 : Ctr G mX10_init [.ref 0] [obD] qO := by
  refine Ctr.of ?_
  refine E_aload_n dX10_init_0 rfl (E_objinit dX10_init_1 oiX10_1 oi_1 oi_2 ?_)
  refine R_part (P := []) (R := []) (L := 1) (ci := 9) (kf := 0) (cj := 5) (N := 1) (.object "FibredSpaces$Shelf") [.null] shB mX6_init dX10_init_4 dX10_init_5 dX10_init_8 dX10_init_9 dX10_init_12 rfl inX6 tyX6_ok clX10_7 iaX6 iniX6 (by decide +kernel) (fun G => rfl) (.inl lkX10_9) (fun P => i_X6) ⟨Nat.le_of_ble_eq_true rfl, Nat.le_of_ble_eq_true rfl⟩ rfl inX10 tyX10_ok nmX10 (by decide) flX10_10 rfl rfl rfl (by decide +kernel) (fun r => rfl) (fun r => rfl) (by simp) (by simp [shB_len, hiB_len, teB, siB, spB, hoB, peB]) (by decide) (by decide) ?_
  refine R_part (P := []) (L := 21) (ci := 9) (kf := 1) (cj := 1) (N := 3) (.object "FibredSpaces$History") [.null, vi 0, vi 0] hiB mX1_init dX10_init_15 dX10_init_16 dX10_init_19 dX10_init_20 dX10_init_23 rfl inX1 tyX1_ok clX10_16 iaX1 iniX1 (by decide +kernel) (fun G => rfl) (.inl lkX10_18) (fun P => i_X1) ⟨Nat.le_of_ble_eq_true rfl, Nat.le_of_ble_eq_true rfl⟩ rfl inX10 tyX10_ok nmX10 (by decide) flX10_19 rfl rfl rfl (by decide +kernel) (fun r => rfl) (fun r => rfl) (by simp) (by simp [shB_len, hiB_len, teB, siB, spB, hoB, peB]) (by decide) (by decide) ?_
  refine E_aload_n dX10_init_26 rfl (E_iconst dX10_init_27 (R_arrq (P := []) (t := 3) (N := 2) (L := 143) (ci := 9) (kf := 2) dX10_init_28 dX10_init_31 (by omega) clX10_7 (fun U h => h.2.2.2.2.2.2.2.1) rfl rfl inX10 tyX10_ok nmX10 (by decide) flX10_23 rfl rfl rfl (by decide +kernel) (by simp) (by simp [shB_len, hiB_len, teB, siB, spB, hoB, peB]) (by decide) (by decide) ?_))
  refine E_aload_n dX10_init_34 rfl (E_iconst dX10_init_35 (R_arrz (P := []) (N := 2) (L := 144) (ci := 9) (kf := 3) dX10_init_36 dX10_init_38 (by omega) rfl inX10 tyX10_ok nmX10 (by decide) flX10_27 rfl rfl rfl (by decide +kernel) (by simp) (by simp [shB_len, hiB_len, teB, siB, spB, hoB, peB]) (by decide) (by decide) ?_))
  refine R_part (P := []) (L := 145) (ci := 9) (kf := 4) (cj := 8) (N := 9) (.object "FibredSpaces$Telling") [.null, vi 0, vi 0, vi 0, vi 0, vi 0, vi 0, vi 0, vi 0] teB mX9_init dX10_init_41 dX10_init_42 dX10_init_45 dX10_init_46 dX10_init_49 rfl inX9 tyX9_ok clX10_31 iaX9 iniX9 (by decide +kernel) (fun G => rfl) (.inr lkX10_33) (fun P => i_X9) ⟨Nat.le_of_ble_eq_true rfl, Nat.le_of_ble_eq_true rfl⟩ rfl inX10 tyX10_ok nmX10 (by decide) flX10_34 rfl rfl rfl (by decide +kernel) (fun r => rfl) (fun r => rfl) (by simp) (by simp [shB_len, hiB_len, teB, siB, spB, hoB, peB]) (by decide) (by decide) ?_
  refine R_part (P := []) (L := 147) (ci := 9) (kf := 5) (cj := 6) (N := 3) (.object "FibredSpaces$Sightings") [.null, .null, vi 0] siB mX7_init dX10_init_52 dX10_init_53 dX10_init_56 dX10_init_57 dX10_init_60 rfl inX7 tyX7_ok clX10_38 iaX7 iniX7 (by decide +kernel) (fun G => rfl) (.inr lkX10_40) (fun P => i_X7) ⟨Nat.le_of_ble_eq_true rfl, Nat.le_of_ble_eq_true rfl⟩ rfl inX10 tyX10_ok nmX10 (by decide) flX10_41 rfl rfl rfl (by decide +kernel) (fun r => rfl) (fun r => rfl) (by simp) (by simp [shB_len, hiB_len, teB, siB, spB, hoB, peB]) (by decide) (by decide) ?_
  refine R_part (P := []) (L := 150) (ci := 9) (kf := 6) (cj := 7) (N := 7) (.object "FibredSpaces$Space") [vi 0, vi 0, vi 0, vi 0, vi 0, .null, .null] spB mX8_init dX10_init_63 dX10_init_64 dX10_init_67 dX10_init_68 dX10_init_71 rfl inX8 tyX8_ok clX10_45 iaX8 iniX8 (by decide +kernel) (fun G => rfl) (.inr lkX10_47) (fun P => i_X8) ⟨Nat.le_of_ble_eq_true rfl, Nat.le_of_ble_eq_true rfl⟩ rfl inX10 tyX10_ok nmX10 (by decide) flX10_48 rfl rfl rfl (by decide +kernel) (fun r => rfl) (fun r => rfl) (by simp) (by simp [shB_len, hiB_len, teB, siB, spB, hoB, peB]) (by decide) (by decide) ?_
  refine R_part (P := []) (L := 153) (ci := 9) (kf := 7) (cj := 2) (N := 4) (.object "FibredSpaces$Homology") [.null, .null, vi 0, vi 0] hoB mX2_init dX10_init_74 dX10_init_75 dX10_init_78 dX10_init_79 dX10_init_82 rfl inX2 tyX2_ok clX10_52 iaX2 iniX2 (by decide +kernel) (fun G => rfl) (.inr lkX10_54) (fun P => i_X2) ⟨Nat.le_of_ble_eq_true rfl, Nat.le_of_ble_eq_true rfl⟩ rfl inX10 tyX10_ok nmX10 (by decide) flX10_55 rfl rfl rfl (by decide +kernel) (fun r => rfl) (fun r => rfl) (by simp) (by simp [shB_len, hiB_len, teB, siB, spB, hoB, peB]) (by decide) (by decide) ?_
  refine R_part (P := []) (L := 156) (ci := 9) (kf := 8) (cj := 0) (N := 2) (.object "FibredSpaces$Fraction") [vl 0, vl 0] (fun _ => [frB]) mX0_init dX10_init_85 dX10_init_86 dX10_init_89 dX10_init_90 dX10_init_93 rfl inX0 tyX0_ok clX10_59 iaX0 iniX0 (by decide +kernel) (fun G => rfl) (.inr lkX10_61) (fun P => i_X0) ⟨Nat.le_of_ble_eq_true rfl, Nat.le_of_ble_eq_true rfl⟩ rfl inX10 tyX10_ok nmX10 (by decide) flX10_62 rfl rfl rfl (by decide +kernel) (fun r => rfl) (fun r => rfl) (by simp) (by simp [shB_len, hiB_len, teB, siB, spB, hoB, peB]) (by decide) (by decide) ?_
  refine R_part (P := []) (L := 157) (ci := 9) (kf := 9) (cj := 4) (N := 3) (.object "FibredSpaces$Permuting") [.null, .null, .null] peB mX5_init dX10_init_96 dX10_init_97 dX10_init_100 dX10_init_101 dX10_init_104 rfl inX5 tyX5_ok clX10_66 iaX5 iniX5 (by decide +kernel) (fun G => rfl) (.inr lkX10_68) (fun P => i_X5) ⟨Nat.le_of_ble_eq_true rfl, Nat.le_of_ble_eq_true rfl⟩ rfl inX10 tyX10_ok nmX10 (by decide) flX10_69 rfl rfl rfl (by decide +kernel) (fun r => rfl) (fun r => rfl) (by simp) (by simp [shB_len, hiB_len, teB, siB, spB, hoB, peB]) (by decide) (by decide) ?_
  refine R_part (P := []) (L := 161) (ci := 9) (kf := 10) (cj := 3) (N := 2) (.object "FibredSpaces$LensSpace") [vl 0, vl 0] (fun _ => [leB]) mX3_init dX10_init_107 dX10_init_108 dX10_init_111 dX10_init_112 dX10_init_115 rfl inX3 tyX3_ok clX10_73 iaX3 iniX3 (by decide +kernel) (fun G => rfl) (.inr lkX10_75) (fun P => i_X3) ⟨Nat.le_of_ble_eq_true rfl, Nat.le_of_ble_eq_true rfl⟩ rfl inX10 tyX10_ok nmX10 (by decide) flX10_76 rfl rfl rfl (by decide +kernel) (fun r => rfl) (fun r => rfl) (by simp) (by simp [shB_len, hiB_len, teB, siB, spB, hoB, peB]) (by decide) (by decide) ?_
  refine E_aload_n dX10_init_118 rfl (E_bipush dX10_init_119 (R_arrl (P := []) (N := 6) (L := 162) (ci := 9) (kf := 11) dX10_init_121 dX10_init_123 (by omega) rfl inX10 tyX10_ok nmX10 (by decide) flX10_80 rfl rfl rfl (by decide +kernel) (by simp) (by simp [shB_len, hiB_len, teB, siB, spB, hoB, peB]) (by decide) (by decide) ?_))
  refine E_iconst dX10_init_126 (E_istore_n dX10_init_127 ?_)
  exact i_ob0
end INITX
