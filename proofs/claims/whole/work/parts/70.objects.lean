/-! the constructors of the two objects -/
section INITO
variable {G : GT} {y : MI} {Z : ZT} {k n pc : Nat} {ls st : List Value} {P R : HV}
theorem R_part {idx1 idx2 idx3 cj N N2 ci kf L : Nat} {C D : String} {T T2 : u_T} {ty ty2 : Nat → FieldType} (fty : FieldType) (fs0 : List Value) (B : Nat → HV) (y' : MI) {fs lt : List Value}
    (d1 : decode (iC y) pc = .ok (.aload_n 0, 1)) (d2 : decode (iC y) (pc + 1) = .ok (.new idx1, 3)) (d3 : decode (iC y) (pc + 1 + 3) = .ok (.dup, 1)) (d4 : decode (iC y) (pc + 1 + 3 + 1) = .ok (.invokespecial idx2, 3)) (d5 : decode (iC y) (pc + 1 + 3 + 1 + 3) = .ok (.putfield idx3, 3))
    (hc : vwCl[cj]? = some (C, T, N)) (hin : ∀ w ∈ u_ws C T N, w ∈ lw_ok) (hty : ∀ k, k < N → parseFieldDescriptor (T k).2.2.1 = some (ty k))
    (h1 : Cond.classLink (iY y).cls idx1 C ∈ lw_ok) (h2 : Cond.instantiable C N ∈ lw_ok) (h3 : Cond.initialized C ∈ lw_ok) (hfs : ∀ j, j < N → defaultValue (ty j) = vp_V fs0 j) (hfm : ∀ G : GT, fs0.map (mv G) = fs0)
    (hL : LI (iY y).cls idx2 y' 0 ∨ LN (iY y).cls idx2 y' 0) (hC : ∀ P : HV, Ctr G y' [.ref P.length] (P ++ [.inr (cj, fs0)]) (fun v M' => v = none ∧ M' = P ++ B P.length)) (hR : LR y y')
    (hc2 : vwCl[ci]? = some (D, T2, N2)) (hin2 : ∀ w ∈ u_ws D T2 N2, w ∈ lw_ok)
    (hty2 : ∀ k, k < N2 → parseFieldDescriptor (T2 k).2.2.1 = some (ty2 k)) (hnm : ∀ a, a < N2 → ∀ b, b < N2 → a ≠ b → (T2 a).2.1 ≠ (T2 b).2.1) (hk : kf < N2) (hlk : Cond.fieldLink (iY y).cls idx3 (T2 kf).1 (T2 kf).2.1 (T2 kf).2.2.1 ∈ lw_ok)
    (hfin : (T2 kf).2.2.2 = true) (hi : (iY y).name = "<init>") (hde : (T2 kf).1 = (iY y).cls) (hd2 : parseFieldDescriptor (T2 kf).2.2.1 = some fty) (hn : ∀ r, narrow fty (.ref r) = .ref r) (hfit : ∀ r, fits fty (.ref r) = true)
    (hlen : kf < fs.length) (hl : P.length + 1 + R.length = L) (hr1 : k + 1 + iM y' ≤ iM y) (hr2 : n + N + iS y' ≤ iS y)
    (h : E G y Z (k + 1 + iM y') (n + N + iS y') (pc + 1 + 3 + 1 + 3 + 3) (.ref P.length :: lt) [] (P ++ .inr (ci, fs.set kf (.ref L)) :: (R ++ B L))) : E G y Z k n pc (.ref P.length :: lt) [] (P ++ .inr (ci, fs) :: R) := by
  have hLe : (P ++ .inr (ci, fs) :: R).length = L := by simp; omega
  refine E_aload_n d1 rfl (E_new (ci := cj) (ty := ty) fs0 d2 hc hin hty h1 h2 h3 hfs hfm (E_dup d3 ?_) (by omega) (by omega))
  have key : ∀ v M', (v = none ∧ M' = (P ++ .inr (ci, fs) :: R) ++ B (P ++ .inr (ci, fs) :: R).length) → E G y Z (k + 1 + iM y') (n + N + iS y') (pc + 1 + 3 + 1 + 3) (.ref P.length :: lt) (v.toList ++ [.ref (P ++ .inr (ci, fs) :: R).length, .ref P.length]) M' := by
    intro v M' hv
    obtain ⟨rfl, rfl⟩ := hv
    rw [hLe, List.append_assoc]
    exact R_putF fty d5 hc2 hin2 hty2 hnm hk hlk hfin hi hde hd2 (hn _) (hfit _) hlen h
  rcases hL with hL | hL
  · exact E_callI (y' := y') d4 hL (hC _) key rfl rfl hR (Nat.le_of_ble_eq_true rfl) hr1 hr2
  · exact E_callN (y' := y') d4 hL (hC _) key rfl rfl hR (Nat.le_of_ble_eq_true rfl) hr1 hr2
theorem R_arri {idx3 N N2 ci kf L : Nat} {D : String} {T2 : u_T} {ty2 : Nat → FieldType} {fs lt : List Value}
    (d1 : decode (iC y) pc = .ok (.newarray .int, 2)) (d5 : decode (iC y) (pc + 2) = .ok (.putfield idx3, 3)) (hN : N < 10000)
    (hc2 : vwCl[ci]? = some (D, T2, N2)) (hin2 : ∀ w ∈ u_ws D T2 N2, w ∈ lw_ok)
    (hty2 : ∀ k, k < N2 → parseFieldDescriptor (T2 k).2.2.1 = some (ty2 k)) (hnm : ∀ a, a < N2 → ∀ b, b < N2 → a ≠ b → (T2 a).2.1 ≠ (T2 b).2.1) (hk : kf < N2) (hlk : Cond.fieldLink (iY y).cls idx3 (T2 kf).1 (T2 kf).2.1 (T2 kf).2.2.1 ∈ lw_ok)
    (hfin : (T2 kf).2.2.2 = true) (hi : (iY y).name = "<init>") (hde : (T2 kf).1 = (iY y).cls) (hd2 : parseFieldDescriptor (T2 kf).2.2.1 = some (.array .int))
    (hlen : kf < fs.length) (hl : P.length + 1 + R.length = L) (hr1 : k + 1 ≤ iM y) (hr2 : n + N ≤ iS y)
    (h : E G y Z (k + 1) (n + N) (pc + 2 + 3) (.ref P.length :: lt) [] (P ++ .inr (ci, fs.set kf (.ref L)) :: (R ++ [zc (0, N, [])]))) : E G y Z k n pc (.ref P.length :: lt) (vi N :: .ref P.length :: []) (P ++ .inr (ci, fs) :: R) := by
  refine R_newi (N := N) d1 hN ?_ hr1 hr2
  rw [show P.length + (.inr (ci, fs) :: R : HV).length = L by simp; omega]
  exact R_putF (.array .int) d5 hc2 hin2 hty2 hnm hk hlk hfin hi hde hd2 rfl rfl hlen h
theorem R_arrl {idx3 N N2 ci kf L : Nat} {D : String} {T2 : u_T} {ty2 : Nat → FieldType} {fs lt : List Value}
    (d1 : decode (iC y) pc = .ok (.newarray .long, 2)) (d5 : decode (iC y) (pc + 2) = .ok (.putfield idx3, 3)) (hN : N < 10000)
    (hc2 : vwCl[ci]? = some (D, T2, N2)) (hin2 : ∀ w ∈ u_ws D T2 N2, w ∈ lw_ok)
    (hty2 : ∀ k, k < N2 → parseFieldDescriptor (T2 k).2.2.1 = some (ty2 k)) (hnm : ∀ a, a < N2 → ∀ b, b < N2 → a ≠ b → (T2 a).2.1 ≠ (T2 b).2.1) (hk : kf < N2) (hlk : Cond.fieldLink (iY y).cls idx3 (T2 kf).1 (T2 kf).2.1 (T2 kf).2.2.1 ∈ lw_ok)
    (hfin : (T2 kf).2.2.2 = true) (hi : (iY y).name = "<init>") (hde : (T2 kf).1 = (iY y).cls) (hd2 : parseFieldDescriptor (T2 kf).2.2.1 = some (.array .long))
    (hlen : kf < fs.length) (hl : P.length + 1 + R.length = L) (hr1 : k + 1 ≤ iM y) (hr2 : n + N ≤ iS y)
    (h : E G y Z (k + 1) (n + N) (pc + 2 + 3) (.ref P.length :: lt) [] (P ++ .inr (ci, fs.set kf (.ref L)) :: (R ++ [zc (1, N, [])]))) : E G y Z k n pc (.ref P.length :: lt) (vi N :: .ref P.length :: []) (P ++ .inr (ci, fs) :: R) := by
  refine R_newl (N := N) d1 hN ?_ hr1 hr2
  rw [show P.length + (.inr (ci, fs) :: R : HV).length = L by simp; omega]
  exact R_putF (.array .long) d5 hc2 hin2 hty2 hnm hk hlk hfin hi hde hd2 rfl rfl hlen h
theorem R_arrz {idx3 N N2 ci kf L : Nat} {D : String} {T2 : u_T} {ty2 : Nat → FieldType} {fs lt : List Value}
    (d1 : decode (iC y) pc = .ok (.newarray .boolean, 2)) (d5 : decode (iC y) (pc + 2) = .ok (.putfield idx3, 3)) (hN : N < 10000)
    (hc2 : vwCl[ci]? = some (D, T2, N2)) (hin2 : ∀ w ∈ u_ws D T2 N2, w ∈ lw_ok)
    (hty2 : ∀ k, k < N2 → parseFieldDescriptor (T2 k).2.2.1 = some (ty2 k)) (hnm : ∀ a, a < N2 → ∀ b, b < N2 → a ≠ b → (T2 a).2.1 ≠ (T2 b).2.1) (hk : kf < N2) (hlk : Cond.fieldLink (iY y).cls idx3 (T2 kf).1 (T2 kf).2.1 (T2 kf).2.2.1 ∈ lw_ok)
    (hfin : (T2 kf).2.2.2 = true) (hi : (iY y).name = "<init>") (hde : (T2 kf).1 = (iY y).cls) (hd2 : parseFieldDescriptor (T2 kf).2.2.1 = some (.array .boolean))
    (hlen : kf < fs.length) (hl : P.length + 1 + R.length = L) (hr1 : k + 1 ≤ iM y) (hr2 : n + N ≤ iS y)
    (h : E G y Z (k + 1) (n + N) (pc + 2 + 3) (.ref P.length :: lt) [] (P ++ .inr (ci, fs.set kf (.ref L)) :: (R ++ [zc (2, N, [])]))) : E G y Z k n pc (.ref P.length :: lt) (vi N :: .ref P.length :: []) (P ++ .inr (ci, fs) :: R) := by
  refine R_newz (N := N) d1 hN ?_ hr1 hr2
  rw [show P.length + (.inr (ci, fs) :: R : HV).length = L by simp; omega]
  exact R_putF (.array .boolean) d5 hc2 hin2 hty2 hnm hk hlk hfin hi hde hd2 rfl rfl hlen h
theorem R_arrq {idx t idx3 N N2 ci kf L : Nat} {C D : String} {T2 : u_T} {ty2 : Nat → FieldType} {fs lt : List Value}
    (d1 : decode (iC y) pc = .ok (.anewarray idx, 3)) (d5 : decode (iC y) (pc + 3) = .ok (.putfield idx3, 3)) (hN : N < 10000) (h1 : Cond.classLink (iY y).cls idx C ∈ lw_ok) (h2 : ∀ U, Wo G U → va_AO C U) (ht : (tyG G)[t]? = some (gC G t, .object C))
    (hc2 : vwCl[ci]? = some (D, T2, N2)) (hin2 : ∀ w ∈ u_ws D T2 N2, w ∈ lw_ok)
    (hty2 : ∀ k, k < N2 → parseFieldDescriptor (T2 k).2.2.1 = some (ty2 k)) (hnm : ∀ a, a < N2 → ∀ b, b < N2 → a ≠ b → (T2 a).2.1 ≠ (T2 b).2.1) (hk : kf < N2) (hlk : Cond.fieldLink (iY y).cls idx3 (T2 kf).1 (T2 kf).2.1 (T2 kf).2.2.1 ∈ lw_ok)
    (hfin : (T2 kf).2.2.2 = true) (hi : (iY y).name = "<init>") (hde : (T2 kf).1 = (iY y).cls) (hd2 : parseFieldDescriptor (T2 kf).2.2.1 = some (.array (.object C)))
    (hlen : kf < fs.length) (hl : P.length + 1 + R.length = L) (hr1 : k + 1 ≤ iM y) (hr2 : n + N ≤ iS y)
    (h : E G y Z (k + 1) (n + N) (pc + 3 + 3) (.ref P.length :: lt) [] (P ++ .inr (ci, fs.set kf (.ref L)) :: (R ++ [rfC t N []]))) : E G y Z k n pc (.ref P.length :: lt) (vi N :: .ref P.length :: []) (P ++ .inr (ci, fs) :: R) := by
  refine R_newq (N := N) d1 h1 h2 ht hN ?_ hr1 hr2
  rw [show P.length + (.inr (ci, fs) :: R : HV).length = L by simp; omega]
  exact R_putF (.array (.object C)) d5 hc2 hin2 hty2 hnm hk hlk hfin hi hde hd2 rfl rfl hlen h
end INITO
def moD : va_E := .inr (10, [.null, .null, vi 0, .null, .null, vi 0, vi 0, vi 0, vi 0, .null, .null, .null, vi 0, vi 0, vi 0, vi 0, vi 0, vi 0, vl 0, vl 0, .null, vi 0, .null, .null, .null, .null, vl 0, vl 0, vi 0, .null, .null, .null])
def moB (q : Nat) : HV := [zc (20, 32, [q + 1, q + 2, q + 3, q + 4, q + 5, q + 6, q + 7, q + 8, q + 9, q + 10, q + 11, q + 12, q + 13, q + 14, q + 15]), zc (0, 96, []), zc (0, 576, []), zc (0, 192, []), zc (2, 2, []), zc (0, 20, []), zc (0, 20, []), zc (0, 100, []), zc (1, 8, []), zc (0, 64, []), zc (0, 8, []), zc (1, 12, []), zc (1, 12, []), zc (0, 6, []), zc (1, 6, []), zc (1, 6, [])]
theorem i_X11 {G : GT} {P : HV} : Ctr G mX11_init [.ref P.length] (P ++ [moD]) (fun v M' => v = none ∧ M' = P ++ moB P.length) := by
  refine Ctr.of ?_
  refine E_aload_n dX11_init_0 rfl (E_objinit dX11_init_1 oiX11_1 oi_1 oi_2 ?_)
  refine E_aload_n dX11_init_4 rfl (E_bipush dX11_init_5 (R_arri (N := 96) (L := P.length + 1) (ci := 10) (kf := 0) (R := []) dX11_init_7 dX11_init_9 (by omega) rfl inX11 tyX11_ok nmX11 (by decide) flX11_7 rfl rfl rfl (by decide +kernel) (by simp) rfl (by decide) (by decide) ?_))
  refine E_aload_n dX11_init_12 rfl (E_sipush dX11_init_13 (R_arri (N := 576) (L := P.length + 2) (ci := 10) (kf := 1) (R := [zc (0, 96, [])]) dX11_init_16 dX11_init_18 (by omega) rfl inX11 tyX11_ok nmX11 (by decide) flX11_13 rfl rfl rfl (by decide +kernel) (by simp) rfl (by decide) (by decide) ?_))
  refine E_aload_n dX11_init_21 rfl (E_sipush dX11_init_22 (R_arri (N := 192) (L := P.length + 3) (ci := 10) (kf := 3) (R := [zc (0, 96, []), zc (0, 576, [])]) dX11_init_25 dX11_init_27 (by omega) rfl inX11 tyX11_ok nmX11 (by decide) flX11_16 rfl rfl rfl (by decide +kernel) (by simp) rfl (by decide) (by decide) ?_))
  refine E_aload_n dX11_init_30 rfl (E_iconst dX11_init_31 (R_arrz (N := 2) (L := P.length + 4) (ci := 10) (kf := 4) (R := [zc (0, 96, []), zc (0, 576, []), zc (0, 192, [])]) dX11_init_32 dX11_init_34 (by omega) rfl inX11 tyX11_ok nmX11 (by decide) flX11_19 rfl rfl rfl (by decide +kernel) (by simp) rfl (by decide) (by decide) ?_))
  refine E_aload_n dX11_init_37 rfl (E_bipush dX11_init_38 (R_arri (N := 20) (L := P.length + 5) (ci := 10) (kf := 9) (R := [zc (0, 96, []), zc (0, 576, []), zc (0, 192, []), zc (2, 2, [])]) dX11_init_40 dX11_init_42 (by omega) rfl inX11 tyX11_ok nmX11 (by decide) flX11_23 rfl rfl rfl (by decide +kernel) (by simp) rfl (by decide) (by decide) ?_))
  refine E_aload_n dX11_init_45 rfl (E_bipush dX11_init_46 (R_arri (N := 20) (L := P.length + 6) (ci := 10) (kf := 10) (R := [zc (0, 96, []), zc (0, 576, []), zc (0, 192, []), zc (2, 2, []), zc (0, 20, [])]) dX11_init_48 dX11_init_50 (by omega) rfl inX11 tyX11_ok nmX11 (by decide) flX11_26 rfl rfl rfl (by decide +kernel) (by simp) rfl (by decide) (by decide) ?_))
  refine E_aload_n dX11_init_53 rfl (E_bipush dX11_init_54 (R_arri (N := 100) (L := P.length + 7) (ci := 10) (kf := 11) (R := [zc (0, 96, []), zc (0, 576, []), zc (0, 192, []), zc (2, 2, []), zc (0, 20, []), zc (0, 20, [])]) dX11_init_56 dX11_init_58 (by omega) rfl inX11 tyX11_ok nmX11 (by decide) flX11_29 rfl rfl rfl (by decide +kernel) (by simp) rfl (by decide) (by decide) ?_))
  refine E_aload_n dX11_init_61 rfl (E_bipush dX11_init_62 (R_arrl (N := 8) (L := P.length + 8) (ci := 10) (kf := 20) (R := [zc (0, 96, []), zc (0, 576, []), zc (0, 192, []), zc (2, 2, []), zc (0, 20, []), zc (0, 20, []), zc (0, 100, [])]) dX11_init_64 dX11_init_66 (by omega) rfl inX11 tyX11_ok nmX11 (by decide) flX11_32 rfl rfl rfl (by decide +kernel) (by simp) rfl (by decide) (by decide) ?_))
  refine E_aload_n dX11_init_69 rfl (E_bipush dX11_init_70 (R_arri (N := 64) (L := P.length + 9) (ci := 10) (kf := 22) (R := [zc (0, 96, []), zc (0, 576, []), zc (0, 192, []), zc (2, 2, []), zc (0, 20, []), zc (0, 20, []), zc (0, 100, []), zc (1, 8, [])]) dX11_init_72 dX11_init_74 (by omega) rfl inX11 tyX11_ok nmX11 (by decide) flX11_36 rfl rfl rfl (by decide +kernel) (by simp) rfl (by decide) (by decide) ?_))
  refine E_aload_n dX11_init_77 rfl (E_bipush dX11_init_78 (R_arri (N := 8) (L := P.length + 10) (ci := 10) (kf := 23) (R := [zc (0, 96, []), zc (0, 576, []), zc (0, 192, []), zc (2, 2, []), zc (0, 20, []), zc (0, 20, []), zc (0, 100, []), zc (1, 8, []), zc (0, 64, [])]) dX11_init_80 dX11_init_82 (by omega) rfl inX11 tyX11_ok nmX11 (by decide) flX11_39 rfl rfl rfl (by decide +kernel) (by simp) rfl (by decide) (by decide) ?_))
  refine E_aload_n dX11_init_85 rfl (E_bipush dX11_init_86 (R_arrl (N := 12) (L := P.length + 11) (ci := 10) (kf := 24) (R := [zc (0, 96, []), zc (0, 576, []), zc (0, 192, []), zc (2, 2, []), zc (0, 20, []), zc (0, 20, []), zc (0, 100, []), zc (1, 8, []), zc (0, 64, []), zc (0, 8, [])]) dX11_init_88 dX11_init_90 (by omega) rfl inX11 tyX11_ok nmX11 (by decide) flX11_42 rfl rfl rfl (by decide +kernel) (by simp) rfl (by decide) (by decide) ?_))
  refine E_aload_n dX11_init_93 rfl (E_bipush dX11_init_94 (R_arrl (N := 12) (L := P.length + 12) (ci := 10) (kf := 25) (R := [zc (0, 96, []), zc (0, 576, []), zc (0, 192, []), zc (2, 2, []), zc (0, 20, []), zc (0, 20, []), zc (0, 100, []), zc (1, 8, []), zc (0, 64, []), zc (0, 8, []), zc (1, 12, [])]) dX11_init_96 dX11_init_98 (by omega) rfl inX11 tyX11_ok nmX11 (by decide) flX11_45 rfl rfl rfl (by decide +kernel) (by simp) rfl (by decide) (by decide) ?_))
  refine E_aload_n dX11_init_101 rfl (E_bipush dX11_init_102 (R_arri (N := 6) (L := P.length + 13) (ci := 10) (kf := 29) (R := [zc (0, 96, []), zc (0, 576, []), zc (0, 192, []), zc (2, 2, []), zc (0, 20, []), zc (0, 20, []), zc (0, 100, []), zc (1, 8, []), zc (0, 64, []), zc (0, 8, []), zc (1, 12, []), zc (1, 12, [])]) dX11_init_104 dX11_init_106 (by omega) rfl inX11 tyX11_ok nmX11 (by decide) flX11_48 rfl rfl rfl (by decide +kernel) (by simp) rfl (by decide) (by decide) ?_))
  refine E_aload_n dX11_init_109 rfl (E_bipush dX11_init_110 (R_arrl (N := 6) (L := P.length + 14) (ci := 10) (kf := 30) (R := [zc (0, 96, []), zc (0, 576, []), zc (0, 192, []), zc (2, 2, []), zc (0, 20, []), zc (0, 20, []), zc (0, 100, []), zc (1, 8, []), zc (0, 64, []), zc (0, 8, []), zc (1, 12, []), zc (1, 12, []), zc (0, 6, [])]) dX11_init_112 dX11_init_114 (by omega) rfl inX11 tyX11_ok nmX11 (by decide) flX11_51 rfl rfl rfl (by decide +kernel) (by simp) rfl (by decide) (by decide) ?_))
  refine E_aload_n dX11_init_117 rfl (E_bipush dX11_init_118 (R_arrl (N := 6) (L := P.length + 15) (ci := 10) (kf := 31) (R := [zc (0, 96, []), zc (0, 576, []), zc (0, 192, []), zc (2, 2, []), zc (0, 20, []), zc (0, 20, []), zc (0, 100, []), zc (1, 8, []), zc (0, 64, []), zc (0, 8, []), zc (1, 12, []), zc (1, 12, []), zc (0, 6, []), zc (1, 6, [])]) dX11_init_120 dX11_init_122 (by omega) rfl inX11 tyX11_ok nmX11 (by decide) flX11_54 rfl rfl rfl (by decide +kernel) (by simp) rfl (by decide) (by decide) ?_))
  refine E_aload_n dX11_init_125 rfl (E_iconst dX11_init_126 ?_)
  refine E_put (ci := 10) (kf := 2) dX11_init_127 rfl inX11 tyX11_ok nmX11 (by decide) flX11_57 rfl (ty := .int) (by decide +kernel) rfl rfl R_at (by simp) ?_
  rw [R_set]
  exact E_vret dX11_init_130 ⟨rfl, rfl⟩
