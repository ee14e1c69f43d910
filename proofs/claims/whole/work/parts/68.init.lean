/-! constructors -/
def zr : Int → Int := fun _ => 0
def zc (s : Nat × Nat × List Nat) : va_E := cell s zr
section INITR
variable {G : GT} {y : MI} {Z : ZT} {k n pc : Nat} {ls st : List Value} {P R : HV}
theorem R_at {P R : HV} {c : va_E} : (P ++ c :: R)[P.length]? = some c := by simp
theorem R_set {P R : HV} {c d : va_E} : (P ++ c :: R).set P.length d = P ++ d :: R := by simp
theorem R_newi {N : Nat} (hd : decode (iC y) pc = .ok (.newarray .int, 2)) (hN : N < 10000) (h : E G y Z (k + 1) (n + N) (pc + 2) ls (.ref (P.length + R.length) :: st) (P ++ (R ++ [zc (0, N, [])])))
    (hr1 : k + 1 ≤ iM y := by decide) (hr2 : n + N ≤ iS y := by decide) : E G y Z k n pc ls (vi N :: st) (P ++ R) := by
  refine E_newa (idx := 0) (t := 0) .int .int (.inl fun _ => Int32.ofInt 0) hd ac_int rfl rfl (fun U c => rfl) (fun cA => rfl) rfl rfl (by show N * 4 ≤ 536870912; omega) (by omega) ?_ hr1 hr2
  rw [List.length_append, List.append_assoc]
  exact h
theorem R_newl {N : Nat} (hd : decode (iC y) pc = .ok (.newarray .long, 2)) (hN : N < 10000) (h : E G y Z (k + 1) (n + N) (pc + 2) ls (.ref (P.length + R.length) :: st) (P ++ (R ++ [zc (1, N, [])])))
    (hr1 : k + 1 ≤ iM y := by decide) (hr2 : n + N ≤ iS y := by decide) : E G y Z k n pc ls (vi N :: st) (P ++ R) := by
  refine E_newa (idx := 0) (t := 1) .long .long (.inr (.inl fun _ => Int64.ofInt 0)) hd ac_long rfl rfl (fun U c => rfl) (fun cA => rfl) rfl rfl (by show N * 8 ≤ 536870912; omega) (by omega) ?_ hr1 hr2
  rw [List.length_append, List.append_assoc]
  exact h
theorem R_newz {N : Nat} (hd : decode (iC y) pc = .ok (.newarray .boolean, 2)) (hN : N < 10000) (h : E G y Z (k + 1) (n + N) (pc + 2) ls (.ref (P.length + R.length) :: st) (P ++ (R ++ [zc (2, N, [])])))
    (hr1 : k + 1 ≤ iM y := by decide) (hr2 : n + N ≤ iS y := by decide) : E G y Z k n pc ls (vi N :: st) (P ++ R) := by
  refine E_newa (idx := 0) (t := 2) .boolean .boolean (.inl fun _ => Int32.ofInt 0) hd ac_boolean rfl rfl (fun U c => rfl) (fun cA => rfl) rfl rfl (by show N * 1 ≤ 536870912; omega) (by omega) ?_ hr1 hr2
  rw [List.length_append, List.append_assoc]
  exact h
/-- rows of references, some of them laid -/
def rfC (t N : Nat) (rs : List Nat) : va_E := .inl (t, N, .inr (.inr (.inr (.inr (fun j => rs[j]?)))))
theorem rfC_up {rs : List Nat} {v : Nat} : va_up (fun j => rs[j]?) rs.length (some v) = fun j => (rs ++ [v])[j]? := by
  funext j
  unfold va_up
  by_cases h : j = rs.length
  · subst h; simp
  · rw [if_neg h]
    by_cases h2 : j < rs.length
    · rw [List.getElem?_append_left h2]
    · rw [List.getElem?_eq_none (l := rs ++ [v]) (by simp; omega)]
      exact List.getElem?_eq_none (by omega)
theorem R_newq {idx t N : Nat} {C : String} (hd : decode (iC y) pc = .ok (.anewarray idx, 3)) (h1 : Cond.classLink (iY y).cls idx C ∈ lw_ok) (h2 : ∀ U, Wo G U → va_AO C U) (ht : (tyG G)[t]? = some (gC G t, .object C)) (hN : N < 10000) (h : E G y Z (k + 1) (n + N) (pc + 3) ls (.ref (P.length + R.length) :: st) (P ++ (R ++ [rfC t N []])))
    (hr1 : k + 1 ≤ iM y := by decide) (hr2 : n + N ≤ iS y := by decide) : E G y Z k n pc ls (vi N :: st) (P ++ R) := by
  refine E_newq (t := t) (C := C) hd h1 h2 ht rfl (by omega) ?_ hr1 hr2
  rw [List.length_append, List.append_assoc]
  have e : (fun _ => none : Nat → Option Nat) = fun j => ([] : List Nat)[j]? := by funext j; simp
  rw [e]
  exact h
theorem R_putF {idx ci kf N : Nat} {C : String} {T : u_T} {ty0 : Nat → FieldType} (ty : FieldType) {fs : List Value} {v : Value} (hd : decode (iC y) pc = .ok (.putfield idx, 3)) (hc : vwCl[ci]? = some (C, T, N)) (hin : ∀ w ∈ u_ws C T N, w ∈ lw_ok)
    (hty : ∀ k, k < N → parseFieldDescriptor (T k).2.2.1 = some (ty0 k)) (hnm : ∀ a, a < N → ∀ b, b < N → a ≠ b → (T a).2.1 ≠ (T b).2.1) (hk : kf < N) (hlk : Cond.fieldLink (iY y).cls idx (T kf).1 (T kf).2.1 (T kf).2.2.1 ∈ lw_ok)
    (hfin : (T kf).2.2.2 = true) (hi : (iY y).name = "<init>") (hde : (T kf).1 = (iY y).cls) (hd2 : parseFieldDescriptor (T kf).2.2.1 = some ty) (hn : narrow ty (mv G v) = mv G v) (hfit : fits ty (mv G v) = true)
    (hlen : kf < fs.length) (h : E G y Z k n (pc + 3) ls st (P ++ .inr (ci, fs.set kf v) :: R)) : E G y Z k n pc ls (v :: .ref P.length :: st) (P ++ .inr (ci, fs) :: R) :=
  E_putF hd hc hin hty hnm hk hlk hfin hi hde hd2 hn hfit R_at hlen (by rw [R_set]; exact h)
theorem R_aast {t N ci : Nat} {q : vw_C} {vs : List Value} {rs : List Nat} {v : Nat} (hd : decode (iC y) pc = .ok (.aastore, 1)) (ht : (tyG G)[t]? = some (gC G t, .object q.1)) (hv : (P ++ rfC t N rs :: R)[v]? = some (.inr (ci, vs))) (hc : vwCl[ci]? = some q) (h1 : rs.length < N) (h2 : N < 10000)
    (h : E G y Z k n (pc + 1) ls st (P ++ rfC t N (rs ++ [v]) :: R)) : E G y Z k n pc ls (.ref v :: vi (rs.length : Int) :: .ref P.length :: st) (P ++ rfC t N rs :: R) := by
  refine E_aast hd R_at ht hv hc (by omega) (by omega) (by omega) ?_
  rw [show ((rs.length : Nat) : Int).toNat = rs.length by omega, rfC_up, R_set]
  exact h
theorem R_aastE {t N ci p : Nat} {i : Int} {q : vw_C} {vs : List Value} {rs : List Nat} {v : Nat} {M : HV} (hM : M = P ++ rfC t N rs :: R) (hp : p = P.length) (hi : i = (rs.length : Int)) (hd : decode (iC y) pc = .ok (.aastore, 1)) (ht : (tyG G)[t]? = some (gC G t, .object q.1)) (hv : M[v]? = some (.inr (ci, vs))) (hc : vwCl[ci]? = some q) (h1 : rs.length < N) (h2 : N < 10000)
    (h : E G y Z k n (pc + 1) ls st (P ++ rfC t N (rs ++ [v]) :: R)) : E G y Z k n pc ls (.ref v :: vi i :: .ref p :: st) M := by
  subst hM hp hi
  exact R_aast hd ht hv hc h1 h2 h
end INITR
def spD : va_E := .inr (7, [vi 0, vi 0, vi 0, vi 0, vi 0, .null, .null])
def spB (q : Nat) : HV := [zc (17, 7, [q + 1, q + 2]), zc (0, 6, []), zc (0, 6, [])]
section INITS
variable {G : GT} {P : HV}
theorem i_X8 : Ctr G mX8_init [.ref P.length] (P ++ [spD]) (fun v M' => v = none ∧ M' = P ++ spB P.length) := by
  refine Ctr.of ?_
  refine E_aload_n dX8_init_0 rfl (E_objinit dX8_init_1 oiX8_3 oi_1 oi_2 ?_)
  refine E_aload_n dX8_init_4 rfl (E_bipush dX8_init_5 (R_newi (N := 6) dX8_init_7 (by omega) ?_))
  refine R_putF (ci := 7) (kf := 5) (.array .int) dX8_init_9 rfl inX8 tyX8_ok nmX8 (by decide) flX8_9 rfl rfl rfl (by decide +kernel) rfl rfl (by decide) (R := [zc (0, 6, [])]) ?_
  refine E_aload_n dX8_init_12 rfl (E_bipush dX8_init_13 (R_newi (N := 6) dX8_init_15 (by omega) ?_))
  refine R_putF (ci := 7) (kf := 6) (.array .int) dX8_init_17 rfl inX8 tyX8_ok nmX8 (by decide) flX8_15 rfl rfl rfl (by decide +kernel) rfl rfl (by simp) (R := [zc (0, 6, []), zc (0, 6, [])]) ?_
  exact E_vret dX8_init_20 ⟨rfl, rfl⟩
def spsB (q : Nat) : Nat → HV
  | 0 => []
  | n + 1 => spsB q n ++ spB (q + 3 * n)
def rfB (q d : Nat) : Nat → List Nat
  | 0 => []
  | n + 1 => rfB q d n ++ [q + d * n]
theorem spsB_len (q : Nat) : ∀ n, (spsB q n).length = 3 * n
  | 0 => rfl
  | n + 1 => by simp [spsB, spsB_len q n, spB]; omega
theorem rfB_len (q d : Nat) : ∀ n, (rfB q d n).length = n
  | 0 => rfl
  | n + 1 => by simp [rfB, rfB_len q d n]
def shD : va_E := .inr (5, [.null])
def shB (q : Nat) : HV := zc (15, 1, [q + 1]) :: rfC 4 6 (rfB (q + 2) 3 6) :: spsB (q + 2) 6
theorem i_sl : ∀ (t i : Nat), i + t = 6 → E G mX6_init (Zq G mX6_init (fun v M' => v = none ∧ M' = P ++ shB P.length)) (1 + 3 * i) (6 + 19 * i) 15 [.ref P.length, vi (i : Int)] [] (P ++ zc (15, 1, [P.length + 1]) :: rfC 4 6 (rfB (P.length + 2) 3 i) :: spsB (P.length + 2) i)
  | 0, i, e => by
    have : i = 6 := by omega
    subst this
    refine E_iload_n dX6_init_15 rfl (E_bipush dX6_init_16 (E_icmp_ge 40 dX6_init_18 (fun _ => ?_) (fun q => by exfalso; omega)))
    exact E_vret dX6_init_40 ⟨rfl, rfl⟩
  | t + 1, i, e => by
    have ih := i_sl t (i + 1) (by omega)
    rw [show ((i + 1 : Nat) : Int) = (i : Int) + 1 by omega, show 1 + 3 * (i + 1) = 1 + 3 * i + 1 + 2 by omega, show 6 + 19 * (i + 1) = 6 + 19 * i + 7 + 12 by omega] at ih
    have m6 : iM mX6_init = 19 := rfl
    have s6 : iS mX6_init = 120 := rfl
    refine E_iload_n dX6_init_15 rfl (E_bipush dX6_init_16 (E_icmp_ge 40 dX6_init_18 (fun q => by exfalso; omega) (fun _ => ?_)))
    refine E_aload_n dX6_init_21 rfl (E_get (ci := 5) (kf := 0) dX6_init_22 rfl inX6 (by decide) flX6_11 R_at rfl ?_)
    refine E_iload_n dX6_init_25 rfl ?_
    have hlen : (P ++ zc (15, 1, [P.length + 1]) :: rfC 4 6 (rfB (P.length + 2) 3 i) :: spsB (P.length + 2) i).length = P.length + 2 + 3 * i := by simp [spsB_len]; omega
    generalize hM : P ++ zc (15, 1, [P.length + 1]) :: rfC 4 6 (rfB (P.length + 2) 3 i) :: spsB (P.length + 2) i = M1 at hlen
    refine E_new (ci := 7) (ty := tyX8) [vi 0, vi 0, vi 0, vi 0, vi 0, .null, .null] dX6_init_26 rfl inX8 tyX8_ok clX6_9 iaX8 iniX8 (by decide +kernel) (fun G => rfl) ?_ (by omega) (by omega)
    refine E_dup dX6_init_29 ?_
    refine E_callN (y' := mX8_init) dX6_init_30 lkX6_17 (i_X8 (P := M1)) (fun v M' hv => ?_) rfl rfl ⟨Nat.le_of_ble_eq_true rfl, Nat.le_of_ble_eq_true rfl⟩ (Nat.le_of_ble_eq_true rfl) (by show 1 + 3 * i + 1 + 2 ≤ 19; omega) (by show 6 + 19 * i + 7 + 12 ≤ 120; omega)
    obtain ⟨rfl, rfl⟩ := hv
    have hsp : spB M1.length = spB (P.length + 2 + 3 * i) := by rw [hlen]
    have e1 : M1 ++ spB M1.length = (P ++ [zc (15, 1, [P.length + 1])]) ++ rfC 4 6 (rfB (P.length + 2) 3 i) :: spsB (P.length + 2) (i + 1) := by
      rw [hsp, ← hM]; simp [spsB]
    have hat : (M1 ++ spB M1.length)[M1.length]? = some (zc (17, 7, [M1.length + 1, M1.length + 2])) := R_at
    refine R_aastE (y := mX6_init) (pc := 33) (t := 4) (q := (RX8, TX8, 7)) (ci := 7) e1 (by simp) (by rw [rfB_len]) dX6_init_33 rfl hat rfl (by rw [rfB_len]; omega) (by omega) ?_
    refine E_iinc dX6_init_34 rfl (E_goto 15 dX6_init_37 ?_)
    rw [hlen]
    have e3 : (P ++ [zc (15, 1, [P.length + 1])]) ++ rfC 4 6 (rfB (P.length + 2) 3 i ++ [P.length + 2 + 3 * i]) :: spsB (P.length + 2) (i + 1) = P ++ zc (15, 1, [P.length + 1]) :: rfC 4 6 (rfB (P.length + 2) 3 (i + 1)) :: spsB (P.length + 2) (i + 1) := by simp [rfB]
    rw [e3]
    exact ih
theorem i_X6 : Ctr G mX6_init [.ref P.length] (P ++ [shD]) (fun v M' => v = none ∧ M' = P ++ shB P.length) := by
  refine Ctr.of ?_
  refine E_aload_n dX6_init_0 rfl (E_objinit dX6_init_1 oiX6_3 oi_1 oi_2 ?_)
  refine E_aload_n dX6_init_4 rfl (E_bipush dX6_init_5 (R_newq (t := 4) (N := 6) (C := "FibredSpaces$Space") dX6_init_7 clX6_9 (fun U h => h.2.2.2.2.2.2.2.2.1) rfl (by omega) ?_))
  refine R_putF (ci := 5) (kf := 0) (.array (.object "FibredSpaces$Space")) dX6_init_10 rfl inX6 tyX6_ok nmX6 (by decide) flX6_11 rfl rfl rfl (by decide +kernel) rfl rfl (by decide) (R := [rfC 4 6 []]) ?_
  refine E_iconst dX6_init_13 (E_istore_n dX6_init_14 ?_)
  exact i_sl 6 0 (by omega)
end INITS
