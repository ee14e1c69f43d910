/-! systems of linear equations over what is left by a power of two: how many solutions -/
def upx (x : Nat → Int) (v : Nat) (a : Int) : Nat → Int := fun j => if j = v then a else x j
def sumV (m : Nat) : List Nat → ((Nat → Int) → Int) → (Nat → Int) → Int
  | [], f, x => f x
  | v :: vs, f, x => sumN m (fun a => sumV m vs f (upx x v a))
theorem sumV_congr {m : Nat} {f g : (Nat → Int) → Int} (h : ∀ x, f x = g x) : ∀ (vs : List Nat) (x : Nat → Int), sumV m vs f x = sumV m vs g x
  | [], x => h x
  | v :: vs, x => sumN_congr m (fun a _ => sumV_congr h vs _)
theorem sumV_snoc {m k : Nat} {f : (Nat → Int) → Int} : ∀ (vs : List Nat) (x : Nat → Int), sumV m (vs ++ [k]) f x = sumV m vs (fun y => sumN m (fun a => f (upx y k a))) x
  | [], x => rfl
  | v :: vs, x => sumN_congr m (fun a _ => sumV_snoc vs _)
theorem sumV_mul {m : Nat} {f : (Nat → Int) → Int} (c : Int) : ∀ (vs : List Nat) (x : Nat → Int), sumV m vs (fun y => c * f y) x = c * sumV m vs f x
  | [], x => rfl
  | v :: vs, x => by
    show sumN m (fun a => sumV m vs (fun y => c * f y) (upx x v a)) = c * sumN m (fun a => sumV m vs f (upx x v a))
    rw [← sumN_mul]
    exact sumN_congr m (fun a _ => sumV_mul c vs _)
theorem upx_comm {x : Nat → Int} {v w : Nat} {a b : Int} (h : v ≠ w) : upx (upx x v a) w b = upx (upx x w b) v a := by
  funext j
  unfold upx
  by_cases h1 : j = w
  · subst h1; rw [if_pos rfl, if_neg (fun e => h e.symm), if_pos rfl]
  · rw [if_neg h1]; by_cases h2 : j = v
    · rw [if_pos h2, if_pos h2]
    · rw [if_neg h2, if_neg h2, if_neg h1]
theorem sumV_perm {m : Nat} {f : (Nat → Int) → Int} {vs ws : List Nat} (h : vs.Perm ws) : vs.Nodup → ∀ x, sumV m vs f x = sumV m ws f x := by
  induction h with
  | nil => intro _ x; rfl
  | cons v _ ih => intro hn x; exact sumN_congr m (fun a _ => ih (List.nodup_cons.mp hn).2 _)
  | swap v w l =>
    intro hn x
    have hne : w ≠ v := fun e => (List.nodup_cons.mp hn).1 (by rw [e]; exact List.mem_cons_self)
    show sumN m (fun a => sumN m (fun b => sumV m l f (upx (upx x w a) v b))) = sumN m (fun a => sumN m (fun b => sumV m l f (upx (upx x v a) w b)))
    rw [sumN_swap (fun a b => sumV m l f (upx (upx x w a) v b)) m m]
    exact sumN_congr m (fun a _ => sumN_congr m (fun b _ => by rw [upx_comm hne]))
  | trans h1 _ ih1 ih2 => intro hn x; rw [ih1 hn x, ih2 (h1.nodup hn) x]
theorem sumV_sub {m : Nat} {f : (Nat → Int) → Int} {π : Nat → Nat} (hπ : ∀ j, π (π j) = j) : ∀ (vs : List Nat) (x : Nat → Int), sumV m vs (fun y => f (fun j => y (π j))) x = sumV m (vs.map π) f (fun j => x (π j))
  | [], x => rfl
  | v :: vs, x => by
    show sumN m (fun a => sumV m vs (fun y => f (fun j => y (π j))) (upx x v a)) = sumN m (fun a => sumV m (vs.map π) f (upx (fun j => x (π j)) (π v) a))
    refine sumN_congr m (fun a _ => ?_)
    rw [sumV_sub hπ vs]
    congr 1
    funext j
    unfold upx
    by_cases h : π j = v
    · rw [if_pos h, if_pos (by rw [← h, hπ])]
    · rw [if_neg h, if_neg (fun e => h (by rw [e, hπ]))]
def lin : List Nat → (Nat → Int) → (Nat → Int) → Int
  | [], _, _ => 0
  | c :: cs, A, x => A c * x c + lin cs A x
theorem lin_congr {x y : Nat → Int} {A B : Nat → Int} : ∀ (cs : List Nat), (∀ c ∈ cs, A c = B c ∧ x c = y c) → lin cs A x = lin cs B y
  | [], _ => rfl
  | c :: cs, h => by
    obtain ⟨h1, h2⟩ := h c List.mem_cons_self
    show A c * x c + lin cs A x = B c * y c + lin cs B y
    rw [h1, h2, lin_congr cs (fun d hd => h d (List.mem_cons_of_mem _ hd))]
theorem lin_perm {A x : Nat → Int} {cs ds : List Nat} (h : cs.Perm ds) : lin cs A x = lin ds A x := by
  induction h with
  | nil => rfl
  | cons v _ ih => show _ + _ = _ + _; rw [ih]
  | swap v w l => show _ + (_ + _) = _ + (_ + _); omega
  | trans _ _ ih1 ih2 => rw [ih1, ih2]
theorem lin_map {A x : Nat → Int} {π : Nat → Nat} : ∀ cs : List Nat, lin (cs.map π) A x = lin cs (fun c => A (π c)) (fun c => x (π c))
  | [] => rfl
  | c :: cs => by show _ + _ = _ + _; rw [lin_map cs]
theorem lin_lc {A B x : Nat → Int} {u : Int} : ∀ cs : List Nat, lin cs (fun c => A c - u * B c) x = lin cs A x - u * lin cs B x
  | [] => by simp [lin]
  | c :: cs => by
    show (A c - u * B c) * x c + lin cs (fun c => A c - u * B c) x = A c * x c + lin cs A x - u * (B c * x c + lin cs B x)
    rw [lin_lc cs]; grind
theorem lin_dvd {m : Int} {A B x : Nat → Int} : ∀ cs : List Nat, (∀ c ∈ cs, m ∣ A c - B c) → m ∣ lin cs A x - lin cs B x
  | [], _ => by simp [lin]
  | c :: cs, h => by
    have h1 := h c List.mem_cons_self
    have h2 := lin_dvd (x := x) cs (fun d hd => h d (List.mem_cons_of_mem _ hd))
    have e : lin (c :: cs) A x - lin (c :: cs) B x = (A c - B c) * x c + (lin cs A x - lin cs B x) := by
      show A c * x c + lin cs A x - (B c * x c + lin cs B x) = _
      grind
    rw [e]
    exact Int.dvd_add (Int.dvd_trans h1 (Int.dvd_mul_right ..)) h2
def rgN (k s : Nat) : List Nat := List.range' k (s - k)
theorem rgN_mem {k s c : Nat} : c ∈ rgN k s ↔ k ≤ c ∧ c < s := by
  unfold rgN; rw [List.mem_range'_1]; omega
theorem rgN_nodup {k s : Nat} : (rgN k s).Nodup := List.nodup_range'
theorem rgN_cons {k s : Nat} (h : k < s) : rgN k s = k :: rgN (k + 1) s := by
  unfold rgN
  rw [show s - k = (s - (k + 1)) + 1 by omega, List.range'_succ]
def swp (a b j : Nat) : Nat := if j = a then b else if j = b then a else j
theorem swp_swp {a b j : Nat} : swp a b (swp a b j) = j := by
  unfold swp
  by_cases h1 : j = a
  · rw [if_pos h1]
    by_cases h2 : b = a
    · rw [if_pos h2]; omega
    · rw [if_neg h2, if_pos rfl, h1]
  · rw [if_neg h1]
    by_cases h2 : j = b
    · rw [if_pos h2, if_pos rfl, h2]
    · rw [if_neg h2, if_neg h1, if_neg h2]
theorem swp_rg {a b k s j : Nat} (ha : k ≤ a ∧ a < s) (hb : k ≤ b ∧ b < s) : (k ≤ swp a b j ∧ swp a b j < s) ↔ (k ≤ j ∧ j < s) := by
  unfold swp
  by_cases h1 : j = a
  · rw [if_pos h1]; omega
  · rw [if_neg h1]
    by_cases h2 : j = b
    · rw [if_pos h2]; omega
    · rw [if_neg h2]
theorem swp_perm {a b k s : Nat} (ha : k ≤ a ∧ a < s) (hb : k ≤ b ∧ b < s) : ((rgN k s).map (swp a b)).Perm (rgN k s) := by
  refine (List.perm_ext_iff_of_nodup ?_ rgN_nodup).mpr (fun j => ?_)
  · refine List.pairwise_map.mpr (rgN_nodup.imp (fun {x y} h e => h ?_))
    rw [← swp_swp (a := a) (b := b) (j := x), e, swp_swp]
  · rw [List.mem_map, rgN_mem]
    constructor
    · rintro ⟨i, h1, rfl⟩
      rw [rgN_mem] at h1
      exact (swp_rg ha hb).mpr h1
    · intro h
      exact ⟨swp a b j, rgN_mem.mpr ((swp_rg ha hb).mpr h), swp_swp⟩
def sysS (m k s : Nat) (A : Nat → Nat → Int) (x : Nat → Int) : Prop := ∀ r, k ≤ r → r < s → (m : Int) ∣ lin (rgN k s) (A r) x
noncomputable def cntS (m k s : Nat) (A : Nat → Nat → Int) : Int := sumV m (rgN k s) (fun x => cif (sysS m k s A x) 1 0) (fun _ => 0)
theorem cif_iff {α : Type} {p q : Prop} {a b : α} (h : p ↔ q) : cif p a b = cif q a b := by
  by_cases hp : p
  · rw [cif_pos hp, cif_pos (h.mp hp)]
  · rw [cif_neg hp, cif_neg (fun hq => hp (h.mpr hq))]
theorem cnt_iff {m k s : Nat} {A B : Nat → Nat → Int} (h : ∀ x, sysS m k s A x ↔ sysS m k s B x) : cntS m k s A = cntS m k s B := sumV_congr (fun x => cif_iff (h x)) _ _
theorem cnt_row {m k s a b : Nat} {A : Nat → Nat → Int} (ha : k ≤ a ∧ a < s) (hb : k ≤ b ∧ b < s) : cntS m k s A = cntS m k s (fun r => A (swp a b r)) := cnt_iff (fun x => ⟨fun h r h1 h2 => by
    have := (swp_rg (j := r) ha hb).mpr ⟨h1, h2⟩
    exact h _ this.1 this.2, fun h r h1 h2 => by
    have h3 := (swp_rg (j := r) ha hb).mpr ⟨h1, h2⟩
    have h4 := h _ h3.1 h3.2
    dsimp only at h4
    rw [swp_swp] at h4
    exact h4⟩)
theorem cnt_col {m k s a b : Nat} {A : Nat → Nat → Int} (ha : k ≤ a ∧ a < s) (hb : k ≤ b ∧ b < s) : cntS m k s A = cntS m k s (fun r c => A r (swp a b c)) := by
  have h := sumV_sub (m := m) (f := fun x => cif (sysS m k s A x) (1 : Int) 0) (π := swp a b) (fun j => swp_swp) (rgN k s) (fun _ => 0)
  have h2 := sumV_perm (m := m) (f := fun x => cif (sysS m k s A x) (1 : Int) 0) (swp_perm ha hb) ((swp_perm ha hb).symm.nodup rgN_nodup) (fun _ => 0)
  rw [show cntS m k s A = sumV m ((rgN k s).map (swp a b)) (fun x => cif (sysS m k s A x) (1 : Int) 0) (fun _ => 0) from h2.symm, ← h]
  refine sumV_congr (fun x => cif_iff ?_) _ _
  have e : ∀ r, lin (rgN k s) (A r) (fun j => x (swp a b j)) = lin (rgN k s) (fun c => A r (swp a b c)) x := fun r => by
    rw [← lin_perm (swp_perm ha hb), lin_map]
    exact lin_congr _ (fun c _ => ⟨rfl, by rw [swp_swp]⟩)
  exact ⟨fun g r h1 h2 => by rw [← e]; exact g r h1 h2, fun g r h1 h2 => by rw [e]; exact g r h1 h2⟩
theorem pow_min {p : Nat} (hp : p % 2 = 1) (t e : Nat) : Nat.gcd (p * 2 ^ t) (2 ^ e) = 2 ^ (min t e) := by
  have hc : Nat.Coprime p (2 ^ e) := Nat.Coprime.pow_right e (by
    show Nat.gcd p 2 = 1
    rw [Nat.gcd_comm, Nat.gcd_rec, hp]; rfl)
  rw [Nat.Coprime.gcd_mul_left_cancel _ hc]
  rcases Nat.le_total t e with h | h
  · rw [Nat.gcd_eq_left (Nat.pow_dvd_pow 2 h), Nat.min_eq_left h]
  · rw [Nat.gcd_eq_right (Nat.pow_dvd_pow 2 h), Nat.min_eq_right h]
/-- the step of the elimination -/
theorem cnt_elim {e k s t : Nat} {A B : Nat → Nat → Int} {τ : Nat → Int} (he : e ≤ 8) (hk : k < s) (hrow : ∀ c, k ≤ c → c < s → B k c = A k c) (hel : ∀ r c, k < r → r < s → k ≤ c → c < s → (256 : Int) ∣ B r c - (A r c - τ r * A k c)) (hz : ∀ r, k < r → r < s → B r k = 0) {p : Nat → Int} (hp : ∀ c, k ≤ c → c < s → A k c = p c * (2 ^ t : Nat)) (ho : (∃ q : Nat, p k = q ∧ q % 2 = 1) ∨ 8 ≤ t) : cntS (2 ^ e) k s A = (2 ^ (min t e) : Nat) * cntS (2 ^ e) (k + 1) s B := by
  have hm : 0 < 2 ^ e := Nat.pow_pos (by decide)
  have h256 : ((2 ^ e : Nat) : Int) ∣ 256 := by
    have : 2 ^ e ∣ 2 ^ 8 := Nat.pow_dvd_pow 2 he
    exact Int.natCast_dvd_natCast.mpr this
  have e1 : cntS (2 ^ e) k s A = cntS (2 ^ e) k s B := cnt_iff (fun x => by
    have hr0 : lin (rgN k s) (B k) x = lin (rgN k s) (A k) x := lin_congr _ (fun c hc => ⟨hrow c (rgN_mem.mp hc).1 (rgN_mem.mp hc).2, rfl⟩)
    have hr : ∀ r, k < r → r < s → ((2 ^ e : Nat) : Int) ∣ lin (rgN k s) (B r) x - (lin (rgN k s) (A r) x - τ r * lin (rgN k s) (A k) x) := fun r h1 h2 => by
      rw [← lin_lc]
      exact lin_dvd _ (fun c hc => Int.dvd_trans h256 (hel r c h1 h2 (rgN_mem.mp hc).1 (rgN_mem.mp hc).2))
    constructor
    · intro h r h1 h2
      rcases Nat.lt_or_ge k r with h3 | h3
      · have := Int.dvd_add (hr r h3 h2) (Int.dvd_sub (h r h1 h2) (Int.dvd_trans (h k (Nat.le_refl _) hk) (Int.dvd_mul_left (τ r) _)))
        rw [Int.sub_add_cancel] at this
        exact this
      · obtain rfl : r = k := by omega
        rw [hr0]; exact h r h1 h2
    · intro h r h1 h2
      have h0 := h k (Nat.le_refl _) hk
      rw [hr0] at h0
      rcases Nat.lt_or_ge k r with h3 | h3
      · have := Int.dvd_add (Int.dvd_sub (h r h1 h2) (hr r h3 h2)) (Int.dvd_trans h0 (Int.dvd_mul_left (τ r) _))
        rw [show lin (rgN k s) (B r) x - (lin (rgN k s) (B r) x - (lin (rgN k s) (A r) x - τ r * lin (rgN k s) (A k) x)) + τ r * lin (rgN k s) (A k) x = lin (rgN k s) (A r) x by omega] at this
        exact this
      · obtain rfl : r = k := by omega
        exact h0)
  rw [e1]
  have hperm : (rgN k s).Perm (rgN (k + 1) s ++ [k]) := by
    rw [rgN_cons hk]
    exact (List.perm_append_comm (l₁ := [k]) (l₂ := rgN (k + 1) s))
  show sumV (2 ^ e) (rgN k s) (fun x => cif (sysS (2 ^ e) k s B x) 1 0) (fun _ => 0) = _
  rw [sumV_perm hperm rgN_nodup, sumV_snoc]
  unfold cntS
  rw [← sumV_mul]
  refine sumV_congr (fun y => ?_) _ _
  have hkn : k ∉ rgN (k + 1) s := fun h => by have := rgN_mem.mp h; omega
  have hl : ∀ (a : Int) (C : Nat → Int), lin (rgN (k + 1) s) C (upx y k a) = lin (rgN (k + 1) s) C y := fun a C => lin_congr _ (fun c hc => ⟨rfl, by
    unfold upx; rw [if_neg (show ¬ c = k by have := rgN_mem.mp hc; omega)]⟩)
  have hsys : ∀ a : Int, sysS (2 ^ e) k s B (upx y k a) ↔ (((2 ^ e : Nat) : Int) ∣ B k k * a + lin (rgN (k + 1) s) (B k) y) ∧ sysS (2 ^ e) (k + 1) s B y := fun a => by
    have hk0 : ∀ r, lin (rgN k s) (B r) (upx y k a) = B r k * a + lin (rgN (k + 1) s) (B r) y := fun r => by
      rw [rgN_cons hk]
      show B r k * upx y k a k + lin (rgN (k + 1) s) (B r) (upx y k a) = _
      rw [hl]
      congr 2
      unfold upx; rw [if_pos rfl]
    constructor
    · intro h
      refine ⟨by rw [← hk0]; exact h k (Nat.le_refl _) hk, fun r h1 h2 => ?_⟩
      have := h r (by omega) h2
      rw [hk0, hz r (by omega) h2, Int.zero_mul, Int.zero_add] at this
      exact this
    · rintro ⟨h1, h2⟩ r h3 h4
      rw [hk0]
      rcases Nat.lt_or_ge k r with h5 | h5
      · rw [hz r h5 h4, Int.zero_mul, Int.zero_add]; exact h2 r h5 h4
      · obtain rfl : r = k := by omega
        exact h1
  by_cases hy : sysS (2 ^ e) (k + 1) s B y
  · rw [cif_pos hy, Int.mul_one]
    have hlk : ((2 ^ t : Nat) : Int) ∣ lin (rgN (k + 1) s) (B k) y := by
      have : ∀ cs : List Nat, (∀ c ∈ cs, k ≤ c ∧ c < s) → ((2 ^ t : Nat) : Int) ∣ lin cs (B k) y := by
        intro cs
        induction cs with
        | nil => intro _; exact Int.dvd_zero _
        | cons c cs ih =>
          intro h
          have hc := h c List.mem_cons_self
          refine Int.dvd_add ?_ (ih (fun d hd => h d (List.mem_cons_of_mem _ hd)))
          rw [hrow c hc.1 hc.2, hp c hc.1 hc.2]
          exact ⟨p c * y c, by grind⟩
      exact this _ (fun c hc => by have := rgN_mem.mp hc; omega)
    rw [sumN_congr (f := fun a => cif (sysS (2 ^ e) k s B (upx y k a)) 1 0) (g := fun a => ind (2 ^ e) (B k k * a + lin (rgN (k + 1) s) (B k) y)) _ (fun a _ => by
      by_cases q : ((2 ^ e : Nat) : Int) ∣ B k k * a + lin (rgN (k + 1) s) (B k) y
      · rw [cif_pos ((hsys a).mpr ⟨q, hy⟩), ind_1 q]
      · rw [cif_neg (fun h => q ((hsys a).mp h).1), ind_0 q])]
    rcases ho with ⟨q, hq, hq2⟩ | h8
    · have hbk : B k k = ((q * 2 ^ t : Nat) : Int) := by rw [hrow k (Nat.le_refl _) hk, hp k (Nat.le_refl _) hk, hq, Int.natCast_mul]
      rw [hbk, sumN_congr (g := fun a => ind (2 ^ e) (((q * 2 ^ t : Nat) : Int) * a - -(lin (rgN (k + 1) s) (B k) y))) _ (fun a _ => by rw [Int.sub_neg]), sum_lin hm, pow_min hq2, if_pos]
      rw [Int.dvd_neg]
      exact Int.dvd_trans (Int.natCast_dvd_natCast.mpr (Nat.pow_dvd_pow 2 (Nat.min_le_left ..))) hlk
    · have hmin : min t e = e := Nat.min_eq_right (by omega)
      have het : ((2 ^ e : Nat) : Int) ∣ ((2 ^ t : Nat) : Int) := Int.natCast_dvd_natCast.mpr (Nat.pow_dvd_pow 2 (by omega))
      rw [hmin, sumN_congr (f := fun a => ind (2 ^ e) (B k k * a + lin (rgN (k + 1) s) (B k) y)) (g := fun _ => 1) _ (fun a _ => ind_1 (Int.dvd_add ?_ (Int.dvd_trans het hlk))), sumN_const, Int.mul_one]
      rw [hrow k (Nat.le_refl _) hk, hp k (Nat.le_refl _) hk]
      exact Int.dvd_trans het ⟨p k * a, by grind⟩
  · rw [cif_neg hy, Int.mul_zero, sumN_congr (g := fun _ => 0) _ (fun a _ => cif_neg (fun h => hy ((hsys a).mp h).2)), sumN_zero]
