/-! calls with a plain answer -/
def R1 (x : Value) (M : HV) : QT := fun v M' => v = some x ∧ M' = M
def R0 (M : HV) : QT := fun v M' => v = none ∧ M' = M
section CALL2
variable {G : GT} {y : MI} {Z : ZT} {k n pc : Nat} {ls st : List Value} {M : HV}
theorem E_callVP {y' : MI} {idx r na ci : Nat} {a stk fs : List Value} {Qc : QT} (hd : decode (iC y) pc = .ok (.invokevirtual idx, 3)) (hL : LV (iY y).cls idx y' na ci) (hM : M[r]? = some (.inr (ci, fs))) (hC : Ctr G y' (.ref r :: a) M Qc)
    (h : ∀ v M', Qc v M' → E G y Z k n (pc + 3) ls (v.toList ++ st) M') (hs : stk = a.reverse ++ .ref r :: st := by rfl) (hna : a.length = na := by rfl) (hR : LR y y' := by exact ⟨Nat.le_of_ble_eq_true rfl, Nat.le_of_ble_eq_true rfl⟩) (hw : (st.map fun v => v.category).sum ≤ 8 := by exact Nat.le_of_ble_eq_true rfl) (h1 : iM y' = 0 := by rfl) (h2 : iS y' = 0 := by rfl) (h3 : k ≤ iM y := by decide) (h4 : n ≤ iS y := by decide) : E G y Z k n pc ls stk M :=
  E_callV hd hL hM hC (by rw [h1, h2]; exact h) hs hna hR hw (by rw [h1]; exact h3) (by rw [h2]; exact h4)
theorem E_callSP {y' : MI} {idx na : Nat} {a stk : List Value} {Qc : QT} (hd : decode (iC y) pc = .ok (.invokestatic idx, 3)) (hL : LSt (iY y).cls idx y' na) (hC : Ctr G y' a M Qc)
    (h : ∀ v M', Qc v M' → E G y Z k n (pc + 3) ls (v.toList ++ st) M') (hs : stk = a.reverse ++ st := by rfl) (hna : a.length = na := by rfl) (hR : LR y y' := by exact ⟨Nat.le_of_ble_eq_true rfl, Nat.le_of_ble_eq_true rfl⟩) (hw : (st.map fun v => v.category).sum ≤ 8 := by exact Nat.le_of_ble_eq_true rfl) (h1 : iM y' = 0 := by rfl) (h2 : iS y' = 0 := by rfl) (h3 : k ≤ iM y := by decide) (h4 : n ≤ iS y := by decide) : E G y Z k n pc ls stk M :=
  E_callS hd hL hC (by rw [h1, h2]; exact h) hs hna hR hw (by rw [h1]; exact h3) (by rw [h2]; exact h4)
theorem E_callVR {y' : MI} {idx r na ci : Nat} {a stk fs : List Value} {x : Value} {M2 : HV} (hd : decode (iC y) pc = .ok (.invokevirtual idx, 3)) (hL : LV (iY y).cls idx y' na ci) (hM : M[r]? = some (.inr (ci, fs))) (hC : Ctr G y' (.ref r :: a) M (R1 x M2))
    (h : E G y Z k n (pc + 3) ls (x :: st) M2) (hs : stk = a.reverse ++ .ref r :: st := by rfl) (hna : a.length = na := by rfl) (hR : LR y y' := by exact ⟨Nat.le_of_ble_eq_true rfl, Nat.le_of_ble_eq_true rfl⟩) (hw : (st.map fun v => v.category).sum ≤ 8 := by exact Nat.le_of_ble_eq_true rfl) (h1 : iM y' = 0 := by rfl) (h2 : iS y' = 0 := by rfl) (h3 : k ≤ iM y := by decide) (h4 : n ≤ iS y := by decide) : E G y Z k n pc ls stk M :=
  E_callVP hd hL hM hC (by rintro v M' ⟨rfl, rfl⟩; exact h) hs hna hR hw h1 h2 h3 h4
theorem E_callSR {y' : MI} {idx na : Nat} {a stk : List Value} {x : Value} {M2 : HV} (hd : decode (iC y) pc = .ok (.invokestatic idx, 3)) (hL : LSt (iY y).cls idx y' na) (hC : Ctr G y' a M (R1 x M2))
    (h : E G y Z k n (pc + 3) ls (x :: st) M2) (hs : stk = a.reverse ++ st := by rfl) (hna : a.length = na := by rfl) (hR : LR y y' := by exact ⟨Nat.le_of_ble_eq_true rfl, Nat.le_of_ble_eq_true rfl⟩) (hw : (st.map fun v => v.category).sum ≤ 8 := by exact Nat.le_of_ble_eq_true rfl) (h1 : iM y' = 0 := by rfl) (h2 : iS y' = 0 := by rfl) (h3 : k ≤ iM y := by decide) (h4 : n ≤ iS y := by decide) : E G y Z k n pc ls stk M :=
  E_callSP hd hL hC (by rintro v M' ⟨rfl, rfl⟩; exact h) hs hna hR hw h1 h2 h3 h4
theorem E_callVU {y' : MI} {idx r na ci : Nat} {a stk fs : List Value} {M2 : HV} (hd : decode (iC y) pc = .ok (.invokevirtual idx, 3)) (hL : LV (iY y).cls idx y' na ci) (hM : M[r]? = some (.inr (ci, fs))) (hC : Ctr G y' (.ref r :: a) M (R0 M2))
    (h : E G y Z k n (pc + 3) ls st M2) (hs : stk = a.reverse ++ .ref r :: st := by rfl) (hna : a.length = na := by rfl) (hR : LR y y' := by exact ⟨Nat.le_of_ble_eq_true rfl, Nat.le_of_ble_eq_true rfl⟩) (hw : (st.map fun v => v.category).sum ≤ 8 := by exact Nat.le_of_ble_eq_true rfl) (h1 : iM y' = 0 := by rfl) (h2 : iS y' = 0 := by rfl) (h3 : k ≤ iM y := by decide) (h4 : n ≤ iS y := by decide) : E G y Z k n pc ls stk M :=
  E_callVP hd hL hM hC (by rintro v M' ⟨rfl, rfl⟩; exact h) hs hna hR hw h1 h2 h3 h4
theorem E_callSU {y' : MI} {idx na : Nat} {a stk : List Value} {M2 : HV} (hd : decode (iC y) pc = .ok (.invokestatic idx, 3)) (hL : LSt (iY y).cls idx y' na) (hC : Ctr G y' a M (R0 M2))
    (h : E G y Z k n (pc + 3) ls st M2) (hs : stk = a.reverse ++ st := by rfl) (hna : a.length = na := by rfl) (hR : LR y y' := by exact ⟨Nat.le_of_ble_eq_true rfl, Nat.le_of_ble_eq_true rfl⟩) (hw : (st.map fun v => v.category).sum ≤ 8 := by exact Nat.le_of_ble_eq_true rfl) (h1 : iM y' = 0 := by rfl) (h2 : iS y' = 0 := by rfl) (h3 : k ≤ iM y := by decide) (h4 : n ≤ iS y := by decide) : E G y Z k n pc ls stk M :=
  E_callSP hd hL hC (by rintro v M' ⟨rfl, rfl⟩; exact h) hs hna hR hw h1 h2 h3 h4
end CALL2
