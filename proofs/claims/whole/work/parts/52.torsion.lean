/-! the torsion, and the numbers of maps -/
theorem eps_iff {m D M L n : Nat} {T B sh : Int} (hm : 0 < m) (hDM : m = D * M) (hDL : D = Nat.gcd L m) (hdv : (m : Int) ∣ L * T + D * B) (hn : n ∣ M) : (n : Int) ∣ sh * D - T ↔ (n : Int) ∣ sh * L + B := by
  have hD : 0 < D := Nat.pos_of_ne_zero (fun h => by rw [h, Nat.zero_mul] at hDM; omega)
  obtain ⟨l, hl⟩ : D ∣ L := by rw [hDL]; exact Nat.gcd_dvd_left ..
  have hc : Nat.gcd l M = 1 := by
    have h := hDL
    rw [hl, hDM, Nat.gcd_mul_left] at h
    exact Nat.eq_of_mul_eq_mul_left hD (by omega)
  have h1 : (M : Int) ∣ l * T + B := by
    refine Int.dvd_of_mul_dvd_mul_left (a := (D : Int)) (by omega) ?_
    rw [← Int.natCast_mul, ← hDM, show (D : Int) * (l * T + B) = L * T + D * B by rw [hl, Int.natCast_mul]; grind]
    exact hdv
  have h2 : (n : Int) ∣ l * T + B := Int.dvd_trans (Int.natCast_dvd_natCast.mpr hn) h1
  have e : sh * L + B = l * (sh * D - T) + (l * T + B) := by rw [hl, Int.natCast_mul]; grind
  have hcn : Nat.gcd l n = 1 := Nat.dvd_one.mp (by rw [← hc]; exact Nat.gcd_dvd_gcd_of_dvd_right _ hn)
  constructor
  · intro h
    rw [e]
    exact Int.dvd_add (Int.dvd_trans h (Int.dvd_mul_left ..)) h2
  · intro h
    rw [e] at h
    have h3 := Int.dvd_sub h h2
    rw [Int.add_sub_cancel] at h3
    exact cop_dvd hcn h3
theorem gcd_of_iff {y e : Int} {M : Nat} (h : ∀ n : Nat, n ∣ M → ((n : Int) ∣ y ↔ (n : Int) ∣ e)) : Int.gcd y M = Int.gcd e M := by
  have d : ∀ z : Int, Int.gcd z M ∣ M := fun z => Int.natCast_dvd_natCast.mp (Int.gcd_dvd_right ..)
  exact Nat.dvd_antisymm (Int.dvd_gcd ((h _ (d y)).mp (Int.gcd_dvd_left ..)) (Int.gcd_dvd_right ..)) (Int.dvd_gcd ((h _ (d e)).mpr (Int.gcd_dvd_left ..)) (Int.gcd_dvd_right ..))
def ntL (l : List Fib) : List Nat := l.map (fun x => x.1.toNat)
theorem lb_L : ∀ (l : List Fib) (L S : Nat) (B : Int), L ∣ (lbS L B S l).1 ∧ (∀ e ∈ ntL l, e ∣ (lbS L B S l).1) ∧ ∀ z, L ∣ z → (∀ e ∈ ntL l, e ∣ z) → (lbS L B S l).1 ∣ z
  | [], L, S, B => ⟨Nat.dvd_refl _, fun e he => by simp [ntL] at he, fun z h _ => h⟩
  | x :: t, L, S, B => by
    obtain ⟨h1, h2, h3⟩ := lb_L t (Nat.lcm L x.1.toNat) (Nat.lcm S (Nat.gcd x.1.toNat L)) ((Nat.lcm L x.1.toNat / L : Nat) * B + x.2 * (Nat.lcm L x.1.toNat / x.1.toNat : Nat))
    refine ⟨Nat.dvd_trans (Nat.dvd_lcm_left ..) h1, fun e he => ?_, fun z hz hl => ?_⟩
    · rcases List.mem_cons.mp he with rfl | he
      · exact Nat.dvd_trans (Nat.dvd_lcm_right ..) h1
      · exact h2 e he
    · exact h3 z (Nat.lcm_dvd hz (hl _ List.mem_cons_self)) (fun e he => hl e (List.mem_cons_of_mem _ he))
theorem lb_sec {c : Nat} : ∀ (l : List Fib) (L S : Nat) (B : Int), (∀ x ∈ l, 0 < x.1.toNat) → S ∣ c → (∀ e ∈ ntL l, Nat.gcd e L ∣ c) → PW c (ntL l) → (lbS L B S l).2.2 ∣ c
  | [], L, S, B, _, h, _, _ => h
  | x :: t, L, S, B, hp, hS, hL, hw => by
    have hw2 := List.pairwise_cons.mp hw
    have hxL : Nat.gcd x.1.toNat L ∣ c := hL _ List.mem_cons_self
    refine lb_sec t _ _ _ (fun y hy => hp y (List.mem_cons_of_mem _ hy)) (Nat.lcm_dvd hS hxL) (fun e he => ?_) hw2.2
    have hep : 0 < e := by
      obtain ⟨y, hy, rfl⟩ := List.mem_map.mp he
      exact hp y (List.mem_cons_of_mem _ hy)
    have hd := n_dist (d := Nat.gcd e (Nat.lcm L x.1.toNat)) (x := L) (y := x.1.toNat) (Nat.gcd_pos_of_pos_left _ hep) (Nat.gcd_dvd_right ..)
    refine Nat.dvd_trans hd (Nat.lcm_dvd ?_ ?_)
    · exact Nat.dvd_trans (Nat.gcd_dvd_gcd_of_dvd_left _ (Nat.gcd_dvd_left ..)) (hL e (List.mem_cons_of_mem _ he))
    · refine Nat.dvd_trans (Nat.gcd_dvd_gcd_of_dvd_left _ (Nat.gcd_dvd_left ..)) ?_
      rw [Nat.gcd_comm]; exact hw2.1 e he
def copQ (sh : Int) (R : Nat × Int × Nat) : Prop := ∀ x : Nat, (x : Int) ∣ sh * R.1 + R.2.1 → x * R.2.2 ∣ R.1 → x = 1
theorem lb_cop {sh : Int} : ∀ (l : List Fib), (∀ x ∈ l, fibOk x) → ∀ (L S : Nat) (B : Int), 0 < L → 0 < S → S ∣ L → copQ sh (L, B, S) → copQ sh (lbS L B S l)
  | [], _, L, S, B, _, _, _, h => h
  | x :: t, hl, L, S, B, hL, hS, hSL, hq => by
    obtain ⟨x1, x2, x3, x4, x5⟩ := hl x List.mem_cons_self
    obtain ⟨a, ha⟩ : ∃ a : Nat, x.1 = a := ⟨x.1.toNat, by omega⟩
    have eta : x.1.toNat = a := by omega
    have hap : 0 < a := by omega
    obtain ⟨l', a', hc, hL', ha'⟩ := Nat.exists_coprime L a
    have hg : 0 < Nat.gcd L a := Nat.gcd_pos_of_pos_left _ hL
    have e1 : Nat.lcm L a = L * a' := by
      have := Nat.gcd_mul_lcm L a
      conv at this => rhs; rw [ha']
      exact Nat.eq_of_mul_eq_mul_left hg (by rw [this]; grind)
    have e2 : Nat.lcm L a = a * l' := by
      have := Nat.gcd_mul_lcm L a
      conv at this => rhs; lhs; rw [hL']
      exact Nat.eq_of_mul_eq_mul_left hg (by rw [this]; grind)
    have q1 : Nat.lcm L a / L = a' := by rw [e1]; exact Nat.mul_div_cancel_left _ hL
    have q2 : Nat.lcm L a / a = l' := by rw [e2]; exact Nat.mul_div_cancel_left _ hap
    have ha'p : 0 < a' := Nat.pos_of_ne_zero (fun h => by rw [h, Nat.zero_mul] at ha'; omega)
    show copQ sh (lbS (Nat.lcm L x.1.toNat) ((Nat.lcm L x.1.toNat / L : Nat) * B + x.2 * (Nat.lcm L x.1.toNat / x.1.toNat : Nat)) (Nat.lcm S (Nat.gcd x.1.toNat L)) t)
    rw [eta, q1, q2]
    have hSg : Nat.lcm S (Nat.gcd a L) ∣ L := Nat.lcm_dvd hSL (Nat.gcd_dvd_right ..)
    refine lb_cop t (fun y hy => hl y (List.mem_cons_of_mem _ hy)) _ _ _ (Nat.lcm_pos hL hap) (Nat.lcm_pos hS (Nat.gcd_pos_of_pos_left _ hap)) (Nat.dvd_trans hSg (Nat.dvd_lcm_left ..)) ?_
    intro z hz hzS
    simp only at hz hzS
    have hE : sh * ((Nat.lcm L a : Nat) : Int) + ((a' : Int) * B + x.2 * l') = a' * (sh * L + B) + x.2 * l' := by rw [e1, Int.natCast_mul]; grind
    rw [hE] at hz
    have h1 : z ∣ a' * l' := by
      have h := Nat.dvd_trans (Nat.mul_dvd_mul_left z (Nat.dvd_lcm_right S (Nat.gcd a L))) hzS
      rw [e1] at h
      refine Nat.dvd_of_mul_dvd_mul_right (k := Nat.gcd L a) hg ?_
      have hh : a' * l' * Nat.gcd L a = L * a' := by
        conv => rhs; lhs; rw [hL']
        grind
      rw [hh, Nat.gcd_comm L a]; exact h
    have h2 : z * S ∣ L * a' := by
      have h := Nat.dvd_trans (Nat.mul_dvd_mul_left z (Nat.dvd_lcm_left S (Nat.gcd a L))) hzS
      rw [e1] at h; exact h
    have h3 : Nat.gcd z a' = 1 := by
      generalize hw : Nat.gcd z a' = w
      have w1 : w ∣ z := by rw [← hw]; exact Nat.gcd_dvd_left ..
      have w2 : w ∣ a' := by rw [← hw]; exact Nat.gcd_dvd_right ..
      have w3 : (w : Int) ∣ x.2 * l' := by
        have := Int.dvd_sub (Int.dvd_trans (Int.natCast_dvd_natCast.mpr w1) hz) (Int.dvd_trans (Int.natCast_dvd_natCast.mpr w2) (Int.dvd_mul_right _ (sh * L + B)))
        rw [show (a' : Int) * (sh * L + B) + x.2 * l' - a' * (sh * L + B) = x.2 * l' by omega] at this
        exact this
      have w4 : (w : Int) ∣ x.2 := by
        refine cop_dvd (a := l') ?_ (by rw [Int.mul_comm]; exact w3)
        exact Nat.dvd_one.mp (by rw [← (show Nat.gcd l' a' = 1 from hc)]; exact Nat.gcd_dvd_gcd_of_dvd_right _ w2)
      have w6 : a' ∣ a := ⟨Nat.gcd L a, ha'⟩
      have w5 : (w : Int) ∣ x.1 := by rw [ha]; exact Int.natCast_dvd_natCast.mpr (Nat.dvd_trans w2 w6)
      have := Int.dvd_gcd w5 w4
      rw [x5] at this
      exact Nat.dvd_one.mp this
    have h4 : z ∣ l' := Nat.Coprime.dvd_of_dvd_mul_left h3 h1
    have h5 : (z : Int) ∣ sh * L + B := by
      have := Int.dvd_sub hz (Int.dvd_trans (Int.natCast_dvd_natCast.mpr h4) (Int.dvd_mul_left x.2 _))
      rw [Int.add_sub_cancel] at this
      refine cop_dvd (a := a') (by rw [Nat.gcd_comm]; exact h3) this
    obtain ⟨r, hr⟩ := hSL
    have h6 : z ∣ r := by
      refine Nat.Coprime.dvd_of_dvd_mul_left (k := z) (m := a') h3 ?_
      refine Nat.dvd_of_mul_dvd_mul_right (k := S) hS ?_
      rw [show a' * r * S = L * a' by rw [hr]; grind]
      exact h2
    exact hq z h5 (by show z * S ∣ L; rw [hr, Nat.mul_comm S r]; exact Nat.mul_dvd_mul_right h6 S)
theorem lb_B : ∀ (l p : List Fib) (L S : Nat) (B : Int), (∀ x ∈ p ++ l, 2 ≤ x.1) → 0 < L → B * pA p = bT (pA p) p * L → (lbS L B S l).2.1 * pA (p ++ l) = bT (pA (p ++ l)) (p ++ l) * (lbS L B S l).1
  | [], p, L, S, B, _, _, h => by simpa [lbS] using h
  | x :: t, p, L, S, B, hl, hL, h => by
    have hx := hl x (by simp)
    obtain ⟨a, ha⟩ : ∃ a : Nat, x.1 = a := ⟨x.1.toNat, by omega⟩
    have eta : x.1.toNat = a := by omega
    have hap : 0 < a := by omega
    obtain ⟨l1, e1⟩ := Nat.dvd_lcm_left L a
    obtain ⟨l2, e2⟩ := Nat.dvd_lcm_right L a
    have q1 : Nat.lcm L a / L = l1 := by rw [e1]; exact Nat.mul_div_cancel_left _ hL
    have q2 : Nat.lcm L a / a = l2 := by rw [e2]; exact Nat.mul_div_cancel_left _ hap
    have s1 : ((Nat.lcm L a : Nat) : Int) = L * l1 := by rw [e1, Int.natCast_mul]
    have s2 : ((Nat.lcm L a : Nat) : Int) = a * l2 := by rw [e2, Int.natCast_mul]
    have ih := lb_B t (p ++ [x]) (Nat.lcm L a) (Nat.lcm S (Nat.gcd a L)) ((l1 : Int) * B + x.2 * l2) (by simpa using hl) (Nat.lcm_pos hL hap) (by
      rw [pA_snoc, bT_snoc, bT_scale p (pA p) (fun y hy => ⟨dvd_pA hy, by have := hl y (by simp [hy]); omega⟩), Int.mul_ediv_cancel _ (by omega), ha, Int.add_mul, Int.add_mul]
      congr 1
      · rw [s1]
        have : (l1 : Int) * B * (pA p * a) = l1 * a * (B * pA p) := by grind
        rw [this, h]; grind
      · rw [s2]; grind)
    show (lbS (Nat.lcm L x.1.toNat) ((Nat.lcm L x.1.toNat / L : Nat) * B + x.2 * (Nat.lcm L x.1.toNat / x.1.toNat : Nat)) (Nat.lcm S (Nat.gcd x.1.toNat L)) t).2.1 * _ = _ * (lbS (Nat.lcm L x.1.toNat) ((Nat.lcm L x.1.toNat / L : Nat) * B + x.2 * (Nat.lcm L x.1.toNat / x.1.toNat : Nat)) (Nat.lcm S (Nat.gcd x.1.toNat L)) t).1
    rw [eta, q1, q2]
    simpa using ih
