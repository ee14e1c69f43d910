/-! how many maps there are into a cyclic group -/
def wayM (m : Nat) (h : Int) : List Fib → (Int → Int) → (Int → Int)
  | [], w => w
  | x :: t, w => wayM m h t (gfP m x.1 x.2 h w)
/-- least common multiple, the sum of b / a over it, and what the second have in common -/
def lbS (L : Nat) (B : Int) (S : Nat) : List Fib → Nat × Int × Nat
  | [] => (L, B, S)
  | x :: t => lbS (Nat.lcm L x.1.toNat) ((Nat.lcm L x.1.toNat / L : Nat) * B + x.2 * (Nat.lcm L x.1.toNat / x.1.toNat : Nat)) (Nat.lcm S (Nat.gcd x.1.toNat L)) t
def gcF (m : Nat) : List Fib → Nat
  | [] => 1
  | x :: t => Nat.gcd x.1.toNat m * gcF m t
theorem gfP_congr {m : Nat} {a b h : Int} {w w' : Int → Int} (hw : ∀ z, w z = w' z) (z : Int) : gfP m a b h w z = gfP m a b h w' z := by
  unfold gfP
  exact sumN_congr m (fun q _ => by rw [hw])
theorem wayM_congr {m : Nat} {h : Int} : ∀ (l : List Fib) {w w' : Int → Int}, (∀ z, w z = w' z) → ∀ z, wayM m h l w z = wayM m h l w' z
  | [], _, _, hw, z => hw z
  | x :: t, _, _, hw, z => wayM_congr t (gfP_congr hw) z
theorem way_cos {m : Nat} (hm : 0 < m) : ∀ (l : List Fib), (∀ x ∈ l, fibOk x) → ∀ (K D M L S : Nat) (T B : Int), m = D * M → 0 < L → D = Nat.gcd L m → (m : Int) ∣ L * T + D * B →
    ∃ (K' D' M' : Nat) (T' : Int), m = D' * M' ∧ 0 < (lbS L B S l).1 ∧ D' = Nat.gcd (lbS L B S l).1 m ∧ (m : Int) ∣ (lbS L B S l).1 * T' + D' * (lbS L B S l).2.1 ∧ K' * D' = K * D * gcF m l ∧ ∀ h z, wayM m h l (cosW K D M T h) z = cosW K' D' M' T' h z
  | [], _, K, D, M, L, S, T, B, h1, h2, h3, h4 => ⟨K, D, M, T, h1, h2, h3, h4, by simp [gcF], fun _ _ => rfl⟩
  | x :: t, hl, K, D, M, L, S, T, B, h1, h2, h3, h4 => by
    obtain ⟨x1, x2, x3, x4, x5⟩ := hl x List.mem_cons_self
    obtain ⟨a, ha⟩ : ∃ a : Nat, x.1 = a := ⟨x.1.toNat, by omega⟩
    have eta : x.1.toNat = a := by omega
    have hap : 0 < a := by omega
    obtain ⟨g, d', D', r, t0, g1, g2, g3, g4, g5, g6, g7⟩ := cos_step (K := K) (T := T) (a := a) (b := x.2) hm h1 (by rw [← ha]; exact x5)
    have hL' : 0 < Nat.lcm L a := Nat.lcm_pos h2 hap
    have hgp : 0 < g := by rw [← g1]; exact Nat.gcd_pos_of_pos_right _ (Nat.gcd_pos_of_pos_right _ hm)
    obtain ⟨l1, e1⟩ := Nat.dvd_lcm_left L a
    obtain ⟨l2, e2⟩ := Nat.dvd_lcm_right L a
    have q1 : Nat.lcm L a / L = l1 := by rw [e1]; exact Nat.mul_div_cancel_left _ h2
    have q2 : Nat.lcm L a / a = l2 := by rw [e2]; exact Nat.mul_div_cancel_left _ hap
    have eD : D * d' = Nat.gcd (Nat.lcm L a) m := by
      rw [← n_lg hm, ← h3]
      have e := Nat.gcd_mul_lcm D (Nat.gcd a m)
      rw [g1] at e
      have : g * Nat.lcm D (Nat.gcd a m) = g * (D * d') := by rw [e]; conv => lhs; rw [g2]
                                                              grind
      exact (Nat.eq_of_mul_eq_mul_left hgp this).symm
    have hnew : (m : Int) ∣ (Nat.lcm L a : Nat) * (D' * t0 + d' * T) + (D * d' : Nat) * ((l1 : Int) * B + x.2 * (l2 : Int)) := by
      have s1 : ((Nat.lcm L a : Nat) : Int) = L * l1 := by rw [e1, Int.natCast_mul]
      have s2 : ((Nat.lcm L a : Nat) : Int) = a * l2 := by rw [e2, Int.natCast_mul]
      have s3 : ((D * d' : Nat) : Int) = D' * (Nat.gcd a m : Nat) := by rw [g2, ← Int.natCast_mul]; congr 1; rw [g3]; grind
      have s4 : ((D * d' : Nat) : Int) = d' * D := by rw [Int.natCast_mul, Int.mul_comm]
      have e : ((Nat.lcm L a : Nat) : Int) * (D' * t0 + d' * T) + (D * d' : Nat) * ((l1 : Int) * B + x.2 * (l2 : Int)) = l2 * D' * (a * t0 + x.2 * (Nat.gcd a m : Nat)) + l1 * d' * (L * T + D * B) := by
        have u1 : ((Nat.lcm L a : Nat) : Int) * (D' * t0 + d' * T) = a * l2 * (D' * t0) + L * l1 * (d' * T) := by rw [Int.mul_add]; congr 1; rw [s2]; rw [s1]
        have u2 : ((D * d' : Nat) : Int) * ((l1 : Int) * B + x.2 * (l2 : Int)) = d' * D * (l1 * B) + D' * (Nat.gcd a m : Nat) * (x.2 * l2) := by rw [Int.mul_add]; congr 1; rw [s4]; rw [s3]
        rw [u1, u2]; grind
      rw [e]
      exact Int.dvd_add (Int.dvd_trans g6 (Int.dvd_mul_left ..)) (Int.dvd_trans h4 (Int.dvd_mul_left ..))
    have hDM : m = D * d' * r := by rw [Nat.mul_assoc, ← g5]; exact h1
    obtain ⟨K', D2, M2, T2, k1, k2, k3, k4, k5, k6⟩ := way_cos hm t (fun y hy => hl y (List.mem_cons_of_mem _ hy)) (K * g) (D * d') r (Nat.lcm L a) (Nat.lcm S (Nat.gcd a L)) (D' * t0 + d' * T) ((l1 : Int) * B + x.2 * (l2 : Int)) hDM hL' eD hnew
    have eS : lbS L B S (x :: t) = lbS (Nat.lcm L a) ((l1 : Int) * B + x.2 * (l2 : Int)) (Nat.lcm S (Nat.gcd a L)) t := by
      simp only [lbS, eta, q1, q2]
    rw [eS]
    refine ⟨K', D2, M2, T2, k1, k2, k3, k4, ?_, fun h z => ?_⟩
    · rw [k5]
      simp only [gcF, eta]
      rw [g2]; grind
    · show wayM m h t (gfP m x.1 x.2 h (cosW K D M T h)) z = _
      rw [ha, wayM_congr t (g7 h) z]
      exact k6 h z
