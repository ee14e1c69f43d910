/-! sums over what is left modulo m -/
theorem sumN_mul (c : Int) (f : Int → Int) : ∀ n : Nat, sumN n (fun k => c * f k) = c * sumN n f
  | 0 => by simp [sumN]
  | n + 1 => by simp only [sumN, sumN_mul c f n, Int.mul_add]
theorem sumN_split (f : Int → Int) (a : Nat) : ∀ b : Nat, sumN (a + b) f = sumN a f + sumN b (fun k => f (a + k))
  | 0 => by simp [sumN]
  | b + 1 => by
    rw [← Nat.add_assoc]
    simp only [sumN, sumN_split f a b, Int.natCast_add]
    omega
theorem sumN_swap (f : Int → Int → Int) (m : Nat) : ∀ n : Nat, sumN n (fun i => sumN m (fun j => f i j)) = sumN m (fun j => sumN n (fun i => f i j))
  | 0 => by simp only [sumN]; rw [sumN_zero]
  | n + 1 => by
    simp only [sumN, sumN_swap f m n]
    rw [← sumN_add]
/-- the same after m more -/
def per (m : Nat) (f : Int → Int) : Prop := ∀ x, f (x + m) = f x
theorem per.nat {m : Nat} {f : Int → Int} (h : per m f) : ∀ (k : Nat) (x : Int), f (x + m * k) = f x
  | 0, x => by simp
  | k + 1, x => by
    have := per.nat h k (x + m)
    rw [h] at this
    rw [← this]
    congr 1
    rw [Int.natCast_add, Int.mul_add]; simp; omega
theorem per.int {m : Nat} {f : Int → Int} (h : per m f) (k x : Int) : f (x + m * k) = f x := by
  rcases Int.eq_nat_or_neg k with ⟨n, rfl | rfl⟩
  · exact h.nat n x
  · have := h.nat n (x + m * -(n : Int))
    rw [← this]
    congr 1
    rw [Int.mul_neg]; omega
theorem per.mod {m : Nat} {f : Int → Int} (h : per m f) (x : Int) : f (x % m) = f x := by
  have := h.int (x / m) (x % m)
  rw [Int.emod_add_mul_ediv] at this
  exact this.symm
theorem per.eq {m : Nat} {f : Int → Int} (h : per m f) {x y : Int} (hd : (m : Int) ∣ x - y) : f x = f y := by
  obtain ⟨k, hk⟩ := hd
  have := h.int k y
  rw [← hk] at this
  rw [← this]; congr 1; omega
theorem per.shift1 {m : Nat} {f : Int → Int} (h : per m f) : sumN m (fun k => f (k + 1)) = sumN m f := by
  have e : ∀ n : Nat, sumN n (fun k => f (k + 1)) + f 0 = sumN n f + f n := by
    intro n
    induction n with
    | zero => simp [sumN]
    | succ n ih => simp only [sumN, Int.natCast_add, Int.natCast_one]; omega
  have h1 := e m
  have h2 := h 0
  rw [Int.zero_add] at h2
  omega
theorem per.sh {m : Nat} {f : Int → Int} (h : per m f) (c : Int) : per m (fun k => f (k + c)) := fun x => by
  show f (x + m + c) = f (x + c)
  rw [show x + m + c = x + c + m by omega]
  exact h _
theorem per.shiftN {m : Nat} {f : Int → Int} (h : per m f) : ∀ c : Nat, sumN m (fun k => f (k + c)) = sumN m f
  | 0 => by simp
  | c + 1 => by
    have h1 := (h.sh c).shift1
    rw [per.shiftN h c] at h1
    rw [← h1]
    exact sumN_congr m (fun k _ => by congr 1; rw [Int.natCast_add]; omega)
theorem per.shift {m : Nat} {f : Int → Int} (h : per m f) (c : Int) : sumN m (fun k => f (k + c)) = sumN m f := by
  rcases Int.eq_nat_or_neg c with ⟨n, rfl | rfl⟩
  · exact h.shiftN n
  · have h1 := (h.sh (-(n : Int))).shiftN n
    rw [← h1]
    exact sumN_congr m (fun k _ => by congr 1; omega)
theorem per.mulN {m : Nat} {f : Int → Int} (h : per m f) : ∀ k : Nat, sumN (m * k) f = k * sumN m f
  | 0 => by simp [sumN]
  | k + 1 => by
    rw [Nat.mul_add, Nat.mul_one, sumN_split, per.mulN h k]
    have : sumN m (fun j => f ((m * k : Nat) + j)) = sumN m f := sumN_congr m (fun j _ => by
      have := h.nat k j
      rw [← this]; congr 1; rw [Int.natCast_mul]; omega)
    rw [this, Int.natCast_add, Int.add_mul]; simp
def ind (A : Nat) (x : Int) : Int := if (A : Int) ∣ x then 1 else 0
theorem ind_1 {A : Nat} {x : Int} (h : (A : Int) ∣ x) : ind A x = 1 := if_pos h
theorem ind_0 {A : Nat} {x : Int} (h : ¬ (A : Int) ∣ x) : ind A x = 0 := if_neg h
theorem ind_iff {A B : Nat} {x y : Int} (h : (A : Int) ∣ x ↔ (B : Int) ∣ y) : ind A x = ind B y := by
  by_cases q : (A : Int) ∣ x
  · rw [ind_1 q, ind_1 (h.mp q)]
  · rw [ind_0 q, ind_0 (fun r => q (h.mpr r))]
theorem ind_per {A m : Nat} (h : A ∣ m) : per m (ind A) := fun x => ind_iff ⟨fun q => by
    have := Int.dvd_sub q (Int.natCast_dvd_natCast.mpr h)
    rw [Int.add_sub_cancel] at this; exact this, fun q => Int.dvd_add q (Int.natCast_dvd_natCast.mpr h)⟩
theorem ind_own {A : Nat} (hA : 0 < A) : sumN A (ind A) = 1 := by
  rw [show sumN A (ind A) = sumN A (fun k => if ((0 : Nat) : Int) = k then (fun _ => (1 : Int)) k else 0) from sumN_congr A (fun k hk => by
    unfold ind
    by_cases h : k = 0
    · subst h; simp
    · rw [if_neg (fun q => ?_), if_neg (by omega)]
      have := Int.le_of_dvd (by omega) q
      omega), sumN_delta, if_pos hA]
theorem ind_sum {A k : Nat} (hA : 0 < A) (γ : Int) : sumN (A * k) (fun q => ind A (q - γ)) = k := by
  have h := (ind_per (A := A) (m := A * k) (Nat.dvd_mul_right A k)).shift (-γ)
  rw [show sumN (A * k) (fun q => ind A (q - γ)) = sumN (A * k) (fun q => ind A (q + -γ)) from sumN_congr _ (fun q _ => by rw [Int.sub_eq_add_neg]), h, (ind_per (Nat.dvd_refl A)).mulN k, ind_own hA, Int.mul_one]
/-- two cosets meet in one coset, or not at all -/
theorem ind_two {g u v r : Nat} (hr : 0 < r) (hu : 0 < u) (hv : 0 < v) (huv : Nat.gcd u v = 1) (α β : Int) : sumN (u * v * r * g) (fun q => ind (u * r) (q - α) * ind (v * r) (q - β)) = if (r : Int) ∣ α - β then (g : Int) else 0 := by
  by_cases h : (r : Int) ∣ α - β
  · rw [if_pos h]
    obtain ⟨s, hs⟩ := h
    obtain ⟨p, w, e⟩ := bezI (u : Int) (v : Int)
    rw [Int.gcd_natCast_natCast, huv] at e
    have e : p * u + w * v = 1 := e
    have ea : α = β + r * s := by omega
    have key : ∀ q : Int, ((u * r : Nat) : Int) ∣ q - α ∧ ((v * r : Nat) : Int) ∣ q - β ↔ ((u * v * r : Nat) : Int) ∣ q - (α - u * r * p * s) := by
      intro q
      rw [Int.natCast_mul, Int.natCast_mul, Int.natCast_mul, Int.natCast_mul]
      constructor
      · rintro ⟨⟨i, hi⟩, j, hj⟩
        have e1 : (r : Int) * (u * i) = r * (v * j - s) := by
          have : q - α = q - β - r * s := by omega
          rw [hi, hj] at this
          grind
        have e2 : (u : Int) * i = v * j - s := Int.eq_of_mul_eq_mul_left (by omega) e1
        refine ⟨p * j + w * i, ?_⟩
        have : q - (α - u * r * p * s) = (q - α) + u * r * p * s := by omega
        rw [this, hi]
        have e3 : (u : Int) * r * i = u * r * i * (p * u + w * v) := by rw [e, Int.mul_one]
        have e4 : (u : Int) * r * i * (p * u) = u * r * p * (v * j - s) := by rw [← e2]; grind
        grind
      · rintro ⟨k, hk⟩
        refine ⟨⟨v * k - p * s, ?_⟩, ⟨u * k + w * s, ?_⟩⟩
        · have : q - α = u * v * r * k - u * r * p * s := by omega
          rw [this]; grind
        · have : q - β = u * v * r * k - u * r * p * s + r * s := by omega
          rw [this]
          have e5 : (r : Int) * s = r * s * (p * u + w * v) := by rw [e, Int.mul_one]
          grind
    rw [show sumN (u * v * r * g) (fun q => ind (u * r) (q - α) * ind (v * r) (q - β)) = sumN (u * v * r * g) (fun q => ind (u * v * r) (q - (α - u * r * p * s))) from sumN_congr _ (fun q _ => by
      by_cases h1 : ((u * r : Nat) : Int) ∣ (q : Int) - α
      · rw [ind_1 h1, Int.one_mul]
        exact ind_iff ⟨fun h2 => (key q).mp ⟨h1, h2⟩, fun h2 => ((key q).mpr h2).2⟩
      · rw [ind_0 h1, Int.zero_mul, ind_0 (fun h2 => h1 ((key q).mpr h2).1)])]
    exact ind_sum (Nat.mul_pos (Nat.mul_pos hu hv) hr) _
  · rw [if_neg h]
    rw [show sumN (u * v * r * g) (fun q => ind (u * r) (q - α) * ind (v * r) (q - β)) = sumN (u * v * r * g) (fun _ => 0) from sumN_congr _ (fun q _ => by
      by_cases h1 : ((u * r : Nat) : Int) ∣ (q : Int) - α
      · by_cases h2 : ((v * r : Nat) : Int) ∣ (q : Int) - β
        · exfalso
          apply h
          have a1 : (r : Int) ∣ (q : Int) - α := Int.dvd_trans (by rw [Int.natCast_mul]; exact Int.dvd_mul_left ..) h1
          have a2 : (r : Int) ∣ (q : Int) - β := Int.dvd_trans (by rw [Int.natCast_mul]; exact Int.dvd_mul_left ..) h2
          have := Int.dvd_sub a2 a1
          rw [show (q : Int) - β - (q - α) = α - β by omega] at this
          exact this
        · rw [ind_0 h2, Int.mul_zero]
      · rw [ind_0 h1, Int.zero_mul]), sumN_zero]
/-- only what D divides -/
theorem sum_step {D : Nat} (hD : 0 < D) (F : Int → Int) : ∀ k : Nat, sumN (D * k) (fun h => ind D h * F h) = sumN k (fun j => F (D * j))
  | 0 => rfl
  | k + 1 => by
    rw [Nat.mul_add, Nat.mul_one, sumN_split, sum_step hD F k]
    simp only [sumN]
    congr 1
    have e : ∀ j : Nat, j < D → ind D ((D * k : Nat) + (j : Int)) * F ((D * k : Nat) + (j : Int)) = if ((0 : Nat) : Int) = j then F ((D * k : Nat) + (j : Int)) else 0 := fun j hj => by
      by_cases h : j = 0
      · subst h
        rw [if_pos rfl, ind_1 (by rw [Int.natCast_mul]; simp), Int.one_mul]
      · rw [if_neg (by omega), ind_0 (fun q => ?_), Int.zero_mul]
        have := Int.dvd_sub q (show (D : Int) ∣ ((D * k : Nat) : Int) by rw [Int.natCast_mul]; exact Int.dvd_mul_right ..)
        rw [show ((D * k : Nat) : Int) + (j : Int) - ((D * k : Nat) : Int) = j by omega] at this
        have := Int.le_of_dvd (by omega) this
        omega
    rw [sumN_congr (g := fun j => if ((0 : Nat) : Int) = j then (fun j => F ((D * k : Nat) + j)) j else 0) D e, sumN_delta (fun j => F ((D * k : Nat) + j)) 0, if_pos hD]
    simp
