/-! what the calls keep of the pure state -/
theorem gcd1 {g : Nat} (h : (g : Int) ∣ 1) : g = 1 := by
  have := Int.natCast_dvd_natCast.mp (by simpa using h : (g : Int) ∣ ((1 : Nat) : Int))
  exact Nat.dvd_one.mp this
theorem gcd_one_of {a b : Int} (h : ∀ g : Int, g ∣ a → g ∣ b → g ∣ 1) : Int.gcd a b = 1 := gcd1 (h _ (Int.gcd_dvd_left ..) (Int.gcd_dvd_right ..))
theorem one_of_gcd {a b g : Int} (h : Int.gcd a b = 1) (h1 : g ∣ a) (h2 : g ∣ b) : g ∣ 1 := by
  have := Int.dvd_coe_gcd h1 h2
  rw [h] at this
  simpa using this
theorem gcd_mod {a b : Int} (h : Int.gcd a b = 1) : Int.gcd a (b % a) = 1 := by
  refine gcd_one_of (fun g h1 h2 => one_of_gcd h h1 ?_)
  have e := Int.emod_add_mul_ediv b a
  rw [← e]
  exact Int.dvd_add h2 (Int.dvd_trans h1 (Int.dvd_mul_right ..))
theorem gcd_mulr {a b m : Int} (h : Int.gcd a b = 1) (h2 : Int.gcd a m = 1) : Int.gcd a (b * m) = 1 := by
  have e : Int.gcd a (b * m) = Nat.gcd a.natAbs (b.natAbs * m.natAbs) := by unfold Int.gcd; rw [Int.natAbs_mul]
  rw [e]
  exact Nat.Coprime.mul_right h h2
def srt (l : List Fib) : Prop := l.Pairwise (fun x y => gtP x y = false)
theorem gtP_tr {x y z : Fib} (h1 : gtP x y = false) (h2 : gtP y z = false) : gtP x z = false := by
  simp only [gtP, Bool.or_eq_false_iff, decide_eq_false_iff_not, Bool.and_eq_false_iff] at *
  omega
theorem gtP_as {x y : Fib} (h : gtP x y = true) : gtP y x = false := by
  simp only [gtP, Bool.or_eq_false_iff, decide_eq_false_iff_not, Bool.and_eq_false_iff, Bool.or_eq_true, decide_eq_true_eq, Bool.and_eq_true] at *
  omega
theorem insR_srt {x : Fib} : ∀ {l : List Fib}, l.Pairwise (fun a b => gtP b a = false) → (insR x l).Pairwise (fun a b => gtP b a = false)
  | [], _ => by simp [insR]
  | y :: t, h => by
    have h1 := List.pairwise_cons.mp h
    unfold insR
    split
    · next e =>
      refine List.pairwise_cons.mpr ⟨fun z hz => ?_, insR_srt h1.2⟩
      rcases insR_mem hz with rfl | hz
      · exact gtP_as e
      · exact h1.1 z hz
    · next e =>
      have e := Bool.eq_false_iff.mpr e
      refine List.pairwise_cons.mpr ⟨fun z hz => ?_, h⟩
      rcases List.mem_cons.mp hz with rfl | hz
      · exact e
      · exact gtP_tr (h1.1 z hz) e
theorem ins_srt {x : Fib} {l : List Fib} (h : srt l) : srt (ins x l) := by
  unfold ins srt
  rw [List.pairwise_reverse]
  exact insR_srt (List.pairwise_reverse.mpr h)
/-- what a draft keeps -/
def drG (d : Sp) : Prop := (d.1 = 0 ∨ d.1 = 1) ∧ d.1 ≤ d.2.1 ∧ (∀ x ∈ d.2.2.2, fibOk x) ∧ srt d.2.2.2
theorem put_good {d : Sp} {a b : Int} (h : drG d) (ha : 1 ≤ a ∧ a ≤ 30) (hb : Int.gcd a b = 1) : drG (put d a b) := by
  obtain ⟨h1, h2, h3, h4⟩ := h
  refine ⟨h1, h2, fun x hx => ?_, ?_⟩
  · simp only [put] at hx
    split at hx
    · next e =>
      rcases ins_mem hx with rfl | hx
      · have g := gcd_mod hb
        have p1 := Int.emod_nonneg b (show a ≠ 0 by omega)
        have p2 := Int.emod_lt_of_pos b (show 0 < a by omega)
        refine ⟨by simp only; omega, ha.2, ?_, p2, g⟩
        simp only
        rcases (show b % a = 0 ∨ 1 ≤ b % a by omega) with e0 | e0
        · rw [e0, Int.gcd_zero_right] at g
          omega
        · exact e0
      · exact h3 x hx
    · exact h3 x hx
  · simp only [put]
    split
    · exact ins_srt h4
    · exact h4
theorem putAll_good {m : Int} : ∀ (l : List Fib) (d : Sp), drG d → (∀ x ∈ l, 1 ≤ x.1 ∧ x.1 ≤ 30 ∧ Int.gcd x.1 (x.2 * m) = 1) → drG (putAll d l m)
  | [], d, h, _ => h
  | x :: l, d, h, hl => by
    have h1 := hl x List.mem_cons_self
    exact putAll_good l _ (put_good h ⟨h1.1, h1.2.1⟩ h1.2.2) (fun z hz => hl z (List.mem_cons_of_mem _ hz))
theorem cop_ok {x : Fib} {m : Int} (h : fibOk x) (hm : Int.gcd x.1 m = 1) : 1 ≤ x.1 ∧ x.1 ≤ 30 ∧ Int.gcd x.1 (x.2 * m) = 1 := ⟨by have := h.1; omega, h.2.1, gcd_mulr h.2.2.2.2 hm⟩
theorem one_ok {x : Fib} (h : fibOk x) : 1 ≤ x.1 ∧ x.1 ≤ 30 ∧ Int.gcd x.1 (x.2 * 1) = 1 := ⟨by have := h.1; omega, h.2.1, by rw [Int.mul_one]; exact h.2.2.2.2⟩
theorem mulD_good {s : Sp} {m : Int} (hok : spOk s) (hm : ∀ x ∈ s.2.2.2, Int.gcd x.1 m = 1) : drG (mulD s m) :=
  putAll_good _ _ ⟨hok.1, hok.2.1, fun x hx => by simp at hx, List.Pairwise.nil⟩ (fun x hx => cop_ok (hok.2.2.2.2.2.2 x hx) (hm x hx))
theorem neg1_gcd (a : Int) : Int.gcd a (-1) = 1 := by rw [Int.gcd_neg]; simp
theorem joinD_good {s t : Sp} (hok : spOk s) (hokt : spOk t) : drG (joinD s t) := by
  refine putAll_good _ _ (putAll_good _ _ ⟨?_, ?_, fun x hx => by simp at hx, List.Pairwise.nil⟩ (fun x hx => one_ok (hok.2.2.2.2.2.2 x hx))) (fun x hx => one_ok (hokt.2.2.2.2.2.2 x hx))
  · have := hok.1
    have := hokt.1
    simp only
    omega
  · have := hok.1
    have := hokt.1
    have := hok.2.1
    have := hokt.2.1
    simp only
    split <;> split <;> omega
theorem without_good {s : Sp} (k : Nat) (hok : spOk s) : drG (putAll (s.1, s.2.1, s.2.2.1, []) (s.2.2.2.eraseIdx k) 1) :=
  putAll_good _ _ ⟨hok.1, hok.2.1, fun x hx => by simp at hx, List.Pairwise.nil⟩ (fun x hx => one_ok (hok.2.2.2.2.2.2 x (List.mem_of_mem_eraseIdx hx)))
theorem cov_good {l : List Fib} (hl : ∀ x ∈ l, fibOk x) : ∀ (n : Nat) (d : Sp), drG d → drG (cov n l d)
  | 0, d, h => h
  | n + 1, d, h => cov_good hl n _ (putAll_good _ _ h (fun x hx => one_ok (hl x hx)))
theorem covD_good {s : Sp} {n : Nat} (hok : spOk s) (hn : n ≤ 3) (hg : ¬ s.2.1 < s.1 + 1) : drG (covD s n) := by
  refine cov_good hok.2.2.2.2.2.2 n _ ⟨hok.1, ?_, fun x hx => by simp at hx, List.Pairwise.nil⟩
  have := hok.1
  have h2 : 0 ≤ (n : Int) * (s.2.1 - (s.1 + 1)) := Int.mul_nonneg (by omega) (by omega)
  simp only
  omega
theorem inv_cop {x m : Int} (hx : 1 < x) (h : Int.gcd x m = 1) : Int.gcd x (invI m x) = 1 := by
  have h1 := (invI_spec (x := m) (m := x) (by omega) (by rw [Int.gcd_comm]; exact h))
  refine gcd_one_of (fun g g1 g2 => ?_)
  obtain ⟨u, hu⟩ := Int.dvd_of_emod_eq_zero h1
  have e : (1 : Int) = invI m x * m - x * u := by omega
  rw [e]
  exact Int.dvd_sub (Int.dvd_trans g2 (Int.dvd_mul_right ..)) (Int.dvd_trans g1 (Int.dvd_mul_right ..))
theorem part_good {s : Sp} {m z : Int} (hok : spOk s) (hm : ∀ x ∈ s.2.2.2, Int.gcd x.1 m = 1) : drG (s.1, s.2.1, z, (putAll (s.1, s.2.1, 0, []) (s.2.2.2.map (prt m)) 1).2.2.2) := by
  have h := putAll_good (m := 1) (s.2.2.2.map (prt m)) (s.1, s.2.1, 0, []) ⟨hok.1, hok.2.1, fun x hx => by simp at hx, List.Pairwise.nil⟩ (fun x hx => by
    obtain ⟨y, hy, rfl⟩ := List.mem_map.mp hx
    have h1 := hok.2.2.2.2.2.2 y hy
    refine ⟨by have := h1.1; simp only [prt]; omega, h1.2.1, ?_⟩
    rw [Int.mul_one]
    exact gcd_mod (gcd_mulr h1.2.2.2.2 (inv_cop (x := y.1) (by have := h1.1; omega) (hm y hy))))
  exact ⟨hok.1, hok.2.1, h.2.2.1, h.2.2.2⟩
def shS (sh : Sh) : Prop := ∀ i : Nat, i < 6 → srt (sh i).2.2.2
def stS (σ : St) : Prop := shS σ.1 ∧ (∀ p ∈ σ.2.1, shS p) ∧ ∀ k g, σ.2.2.1 k = some g → shS g
def stG (σ : St) : Prop := stOk σ ∧ stS σ
theorem fit_ok {d : Sp} (h : drG d) (hf : fitD d) : spOk d := ⟨h.1, h.2.1, hf.2.1, hf.2.2.1, hf.2.2.2, hf.1, h.2.2.1⟩
theorem setSh_ok {sh : Sh} {i : Nat} {d : Sp} (h : shOk sh) (hd : spOk d) : shOk (setSh sh i d) := fun k hk => by
  unfold setSh; split
  · exact hd
  · exact h k hk
theorem setSh_srt {sh : Sh} {i : Nat} {d : Sp} (h : shS sh) (hd : srt d.2.2.2) : shS (setSh sh i d) := fun k hk => by
  unfold setSh; split
  · exact hd
  · exact h k hk
theorem set_good {σ : St} {i : Nat} {d : Sp} (h : stG σ) (hd : drG d) (hf : fitD d) (t : List Int) (ht : t = σ.2.2.2.1 ∨ t = []) : stG (setSh σ.1 i d, (σ.1 :: σ.2.1).take 6, σ.2.2.1, t, σ.2.2.2.2) := by
  obtain ⟨⟨h1, h2, h3, h4, h5, h6, h7, h8⟩, g1, g2, g3⟩ := h
  refine ⟨⟨setSh_ok h1 (fit_ok hd hf), fun p hp => ?_, ?_, h4, ?_, ?_, h7, h8⟩, setSh_srt g1 hd.2.2.2, fun p hp => ?_, g3⟩
  · rcases List.mem_cons.mp (List.mem_of_mem_take hp) with rfl | hp
    · exact h1
    · exact h2 p hp
  · simp only [List.length_take]; omega
  · rcases ht with rfl | rfl
    · exact h5
    · intro x hx; simp at hx
  · rcases ht with rfl | rfl
    · exact h6
    · simp
  · rcases List.mem_cons.mp (List.mem_of_mem_take hp) with rfl | hp
    · exact g1
    · exact g2 p hp
theorem settle_good {σ : St} {i a : Int} {d : Sp} (h : stG σ) (hd : drG d) : stG (sSettle σ i d a).2 := by
  by_cases hf : fitD d
  · rw [show sSettle σ i d a = (a, setSh σ.1 i.toNat d, (σ.1 :: σ.2.1).take 6, σ.2.2) from cif_pos hf]
    exact set_good h hd hf _ (Or.inl rfl)
  · rw [show sSettle σ i d a = (-3, σ) from cif_neg hf]; exact h
theorem cif_G {p : Prop} {a b : Int × St} (ha : p → stG a.2) (hb : ¬ p → stG b.2) : stG (cif p a b).2 := by
  by_cases h : p
  · rw [cif_pos h]; exact ha h
  · rw [cif_neg h]; exact hb h
theorem g_mirrors {σ : St} {i : Int} (h : stG σ) : stG (sMirrors σ i).2 := cif_G (fun _ => h) (fun q => settle_good h (mulD_good (ok_at (Classical.not_not.mp q) h.1.1) (fun _ _ => neg1_gcd _)))
theorem g_joins {σ : St} {i j k : Int} (h : stG σ) : stG (sJoins σ i j k).2 := cif_G (fun _ => h) (fun q => settle_good h (joinD_good (ok_at (Classical.not_not.mp q).2.1 h.1.1) (ok_at (Classical.not_not.mp q).2.2 h.1.1)))
theorem dr_of {s : Sp} (h : spOk s) (h2 : srt s.2.2.2) : drG s := ⟨h.1, h.2.1, h.2.2.2.2.2.2, h2⟩
theorem so_at {i : Int} (hi : isS i) {sh : Sh} (h : shS sh) : srt (sh i.toNat).2.2.2 := h i.toNat (by have := hi.1; have := hi.2; omega)
theorem g_fills {σ : St} {i a b : Int} (h : stG σ) : stG (sFills σ i a b).2 := cif_G (fun _ => h) (fun q => by
  obtain ⟨q1, q2, q3, q4, q5, q6⟩ := Classical.not_not.mp q
  exact settle_good h (put_good (dr_of (ok_at q1 h.1.1) (so_at q1 h.2.1)) ⟨q2, q3⟩ q6))
theorem g_drills {σ : St} {i k : Int} (h : stG σ) : stG (sDrills σ i k).2 := cif_G (fun _ => h) (fun q => settle_good h (without_good _ (ok_at (Classical.not_not.mp q).1 h.1.1)))
theorem cop_all {m : Int} {l : List Fib} (h : cop m l = true) : ∀ x ∈ l, Int.gcd x.1 m = 1 := fun x hx => of_decide_eq_true (List.all_eq_true.mp h x hx)
theorem g_turnsOn {σ : St} {i m : Int} (h : stG σ) : stG (sTurnsOn σ i m).2 := cif_G (fun _ => h) (fun q => cif_G (fun c => settle_good h (mulD_good (ok_at (Classical.not_not.mp q).1 h.1.1) (cop_all c))) (fun _ => h))
theorem g_unwraps {σ : St} {i m : Int} (h : stG σ) : stG (sUnwraps σ i m).2 := cif_G (fun _ => h) (fun q => cif_G (fun c => settle_good h (part_good (ok_at (Classical.not_not.mp q).1 h.1.1) (cop_all c.1))) (fun _ => h))
theorem g_unrolls {σ : St} {i d : Int} (h : stG σ) : stG (sUnrolls σ i d).2 := cif_G (fun _ => h) (fun q => cif_G (fun _ => h) (fun c => settle_good h (covD_good (ok_at (Classical.not_not.mp q).1 h.1.1) (by have := (Classical.not_not.mp q).2; omega) c)))
theorem g_undo {σ : St} (h : stG σ) : stG (sUndo σ).2 := by
  obtain ⟨sh, past, r⟩ := σ
  cases past with
  | nil => exact h
  | cons p t =>
    obtain ⟨⟨h1, h2, h3, h4⟩, g1, g2, g3⟩ := h
    exact ⟨⟨h2 p List.mem_cons_self, fun q hq => h2 q (List.mem_cons_of_mem _ hq), by simp only [sUndo]; simp only [List.length_cons] at h3; omega, h4⟩, g2 p List.mem_cons_self, fun q hq => g2 q (List.mem_cons_of_mem _ hq), g3⟩
theorem g_type {σ : St} {c : Int} (h : stG σ) : stG (sType σ c).2 := cif_G (fun _ => h) (fun q => cif_G (fun _ => h) (fun q2 => by
  obtain ⟨⟨h1, h2, h3, h4, h5, h6, h7, h8⟩, g⟩ := h
  refine ⟨⟨h1, h2, h3, h4, fun x hx => ?_, by simp only [List.length_append, List.length_singleton]; omega, h7, h8⟩, g⟩
  rcases List.mem_append.mp hx with hx | hx
  · exact h5 x hx
  · rw [List.mem_singleton.mp hx]; omega))
theorem g_clear {σ : St} (h : stG σ) : stG (sClear σ).2 := by
  obtain ⟨⟨h1, h2, h3, h4, h5, h6, h7, h8⟩, g⟩ := h
  exact ⟨⟨h1, h2, h3, h4, fun x hx => by simp [sClear] at hx, by simp [sClear], h7, h8⟩, g⟩
theorem g_sees {σ : St} {m v : Int} (hv : v < 9223372036854775808) (h : stG σ) : stG (sSees σ m v).2 := cif_G (fun _ => h) (fun q => cif_G (fun _ => h) (fun q2 => by
  obtain ⟨q3, q4⟩ := Classical.not_not.mp q
  obtain ⟨⟨h1, h2, h3, h4, h5, h6, h7, h8⟩, g⟩ := h
  refine ⟨⟨h1, h2, h3, h4, h5, h6, fun x hx => ?_, by simp only [List.length_append, List.length_singleton]; omega⟩, g⟩
  rcases List.mem_append.mp hx with hx | hx
  · exact h7 x hx
  · rw [List.mem_singleton.mp hx]; exact ⟨q3.1, q3.2, q4, hv⟩))
theorem g_forget {σ : St} (h : stG σ) : stG (sForget σ).2 := by
  obtain ⟨⟨h1, h2, h3, h4, h5, h6, h7, h8⟩, g⟩ := h
  exact ⟨⟨h1, h2, h3, h4, h5, h6, fun x hx => by simp [sForget] at hx, by simp [sForget]⟩, g⟩
theorem g_keep {σ : St} {k : Int} (h : stG σ) : stG (sKeep σ k).2 := cif_G (fun _ => by
  obtain ⟨⟨h1, h2, h3, h4, h5, h6, h7, h8⟩, g1, g2, g3⟩ := h
  refine ⟨⟨h1, h2, h3, fun j g hg => ?_, h5, h6, h7, h8⟩, g1, g2, fun j g hg => ?_⟩
  · simp only at hg
    split at hg
    · rw [← Option.some.inj hg]; exact h1
    · exact h4 j g hg
  · simp only at hg
    split at hg
    · rw [← Option.some.inj hg]; exact g1
    · exact g3 j g hg) (fun _ => h)
theorem g_back {σ : St} {k : Int} (h : stG σ) : stG (sBack σ k).2 := cif_G (fun _ => by
  cases hm : σ.2.2.1 k.toNat with
  | none => exact h
  | some g =>
    obtain ⟨⟨h1, h2, h3, h4, h5, h6, h7, h8⟩, g1, g2, g3⟩ := h
    exact ⟨⟨h4 _ g hm, fun p hp => by simp at hp, by simp, h4, h5, h6, h7, h8⟩, g3 _ g hm, fun p hp => by simp at hp, g3⟩) (fun _ => h)
theorem put_srt {d : Sp} {a b : Int} (h : srt d.2.2.2) : srt (put d a b).2.2.2 := by
  simp only [put]
  split
  · exact ins_srt h
  · exact h
theorem fin_srt {r : List Int} {s : PS} (h : srt s.2.2.2.2.2.2) : srt (finS r s).2.2.2.2.2.2.2.2 := by
  by_cases hk : tkK r = 59
  · rw [show finS r s = (true, nxt r, (s.1 + 1, s.2.1, s.2.2.1, s.2.2.2)) from cif_pos hk]; exact h
  · rw [show finS r s = (false, r, s) from cif_neg hk]; exact h
theorem cif_P {α : Type} {P : α → Prop} {p : Prop} {a b : α} (ha : P a) (hb : P b) : P (cif p a b) := by
  by_cases h : p
  · rw [cif_pos h]; exact ha
  · rw [cif_neg h]; exact hb
theorem item_srt {r : List Int} {s : PS} (h : srt s.2.2.2.2.2.2) : srt (itemS r s).2.2.2.2.2.2.2.2 := by
  unfold itemS
  refine cif_P (P := fun z : Bool × List Int × PS => srt z.2.2.2.2.2.2.2.2) ?_ ?_
  · refine cif_P (P := fun z : Bool × List Int × PS => srt z.2.2.2.2.2.2.2.2) (cif_P (P := fun z : Bool × List Int × PS => srt z.2.2.2.2.2.2.2.2) (fin_srt List.Pairwise.nil) h) h
  · refine cif_P (P := fun z : Bool × List Int × PS => srt z.2.2.2.2.2.2.2.2) (cif_P (P := fun z : Bool × List Int × PS => srt z.2.2.2.2.2.2.2.2) (cif_P (P := fun z : Bool × List Int × PS => srt z.2.2.2.2.2.2.2.2) (fin_srt (put_srt h)) h) h) h
theorem parse_srt : ∀ (n : Nat) (r : List Int) (s : PS), srt s.2.2.2.2.2.2 → srt (parseS n r s).2.2.2.2.2.2.2.2
  | 0, r, s, h => h
  | n + 1, r, s, h => by
    unfold parseS
    exact cif_P (P := fun z : Bool × List Int × PS => srt z.2.2.2.2.2.2.2.2) h (cif_P (P := fun z : Bool × List Int × PS => srt z.2.2.2.2.2.2.2.2) (parse_srt n _ _ (item_srt h)) h)
theorem g_tells {σ : St} {i : Int} (h : stG σ) : stG (sTells σ i).2 := cif_G (fun _ => h) (fun q => cif_G (fun c => cif_G (fun f => set_good h (dr_of (tell_good h.1.2.2.2.2.2.1 c).1 (parse_srt _ _ _ List.Pairwise.nil)) f _ (Or.inr rfl)) (fun _ => h)) (fun _ => h))
def sp0 : Sp := (0, 0, 0, [])
def st0 : St := (fun _ => sp0, [], fun _ => none, [], [])
theorem g_st0 : stG st0 := by
  refine ⟨⟨fun i hi => ?_, fun p hp => by simp [st0] at hp, by simp [st0], fun k g hg => by simp [st0] at hg, fun x hx => by simp [st0] at hx, by simp [st0], fun x hx => by simp [st0] at hx, by simp [st0]⟩, fun i hi => List.Pairwise.nil, fun p hp => by simp [st0] at hp, fun k g hg => by simp [st0] at hg⟩
  exact ⟨Or.inl rfl, by simp [st0, sp0], by simp [st0, sp0], by simp [st0, sp0], by simp [st0, sp0], by simp [st0, sp0], fun x hx => by simp [st0, sp0] at hx⟩
