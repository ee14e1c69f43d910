/-! common divisors, and the chain of numbers each of which divides the next -/
theorem n_dist {d x y : Nat} (hd : 0 < d) (h : d ∣ Nat.lcm x y) : d ∣ Nat.lcm (Nat.gcd d x) (Nat.gcd d y) := by
  have k1 : Nat.gcd d (Nat.gcd x y) ∣ d := Nat.gcd_dvd_left ..
  have k2 : Nat.gcd d (Nat.gcd x y) ∣ Nat.gcd x y := Nat.gcd_dvd_right ..
  have k3 : Nat.gcd d (Nat.gcd x y) ∣ x := Nat.dvd_trans k2 (Nat.gcd_dvd_left ..)
  have k4 : Nat.gcd d (Nat.gcd x y) ∣ y := Nat.dvd_trans k2 (Nat.gcd_dvd_right ..)
  have e : d * Nat.gcd d (Nat.gcd x y) ∣ Nat.gcd d x * Nat.gcd d y := by
    rw [← Nat.gcd_mul_right d (Nat.gcd d y) x]
    refine Nat.dvd_gcd (Nat.mul_dvd_mul_left d (Nat.dvd_gcd k1 k4)) ?_
    rw [← Nat.gcd_mul_left x d y]
    refine Nat.dvd_gcd ?_ ?_
    · rw [Nat.mul_comm x d]; exact Nat.mul_dvd_mul_left d k3
    · rw [← Nat.lcm_mul_gcd x y]; exact Nat.mul_dvd_mul h k2
  have e2 : Nat.gcd (Nat.gcd d x) (Nat.gcd d y) = Nat.gcd d (Nat.gcd x y) := by
    refine Nat.dvd_antisymm ?_ ?_
    · exact Nat.dvd_gcd (Nat.dvd_trans (Nat.gcd_dvd_left ..) (Nat.gcd_dvd_left ..)) (Nat.dvd_gcd (Nat.dvd_trans (Nat.gcd_dvd_left ..) (Nat.gcd_dvd_right ..)) (Nat.dvd_trans (Nat.gcd_dvd_right ..) (Nat.gcd_dvd_right ..)))
    · exact Nat.dvd_gcd (Nat.dvd_gcd k1 k3) (Nat.dvd_gcd k1 k4)
  rw [← Nat.lcm_mul_gcd (Nat.gcd d x) (Nat.gcd d y), e2] at e
  exact Nat.dvd_of_mul_dvd_mul_right (Nat.gcd_pos_of_pos_left _ hd) e
theorem n_lg {x y m : Nat} (hm : 0 < m) : Nat.lcm (Nat.gcd x m) (Nat.gcd y m) = Nat.gcd (Nat.lcm x y) m := by
  refine Nat.dvd_antisymm ?_ ?_
  · exact Nat.lcm_dvd (Nat.dvd_gcd (Nat.dvd_trans (Nat.gcd_dvd_left ..) (Nat.dvd_lcm_left ..)) (Nat.gcd_dvd_right ..)) (Nat.dvd_gcd (Nat.dvd_trans (Nat.gcd_dvd_left ..) (Nat.dvd_lcm_right ..)) (Nat.gcd_dvd_right ..))
  · have h := n_dist (d := Nat.gcd (Nat.lcm x y) m) (x := x) (y := y) (Nat.gcd_pos_of_pos_right _ hm) (Nat.gcd_dvd_left ..)
    refine Nat.dvd_trans h (Nat.lcm_dvd ?_ ?_)
    · exact Nat.dvd_trans (Nat.dvd_gcd (Nat.gcd_dvd_right ..) (Nat.dvd_trans (Nat.gcd_dvd_left ..) (Nat.gcd_dvd_right ..))) (Nat.dvd_lcm_left ..)
    · exact Nat.dvd_trans (Nat.dvd_gcd (Nat.gcd_dvd_right ..) (Nat.dvd_trans (Nat.gcd_dvd_left ..) (Nat.gcd_dvd_right ..))) (Nat.dvd_lcm_right ..)
theorem n_gg {x y m : Nat} : Nat.gcd (Nat.gcd x m) (Nat.gcd y m) = Nat.gcd (Nat.gcd x y) m := by
  refine Nat.dvd_antisymm ?_ ?_
  · exact Nat.dvd_gcd (Nat.dvd_gcd (Nat.dvd_trans (Nat.gcd_dvd_left ..) (Nat.gcd_dvd_left ..)) (Nat.dvd_trans (Nat.gcd_dvd_right ..) (Nat.gcd_dvd_left ..))) (Nat.dvd_trans (Nat.gcd_dvd_left ..) (Nat.gcd_dvd_right ..))
  · exact Nat.dvd_gcd (Nat.dvd_gcd (Nat.dvd_trans (Nat.gcd_dvd_left ..) (Nat.gcd_dvd_left ..)) (Nat.gcd_dvd_right ..)) (Nat.dvd_gcd (Nat.dvd_trans (Nat.gcd_dvd_left ..) (Nat.gcd_dvd_right ..)) (Nat.gcd_dvd_right ..))
theorem n_split {x y m : Nat} (hm : 0 < m) : Nat.gcd (Nat.gcd x y) m * Nat.gcd (Nat.lcm x y) m = Nat.gcd x m * Nat.gcd y m := by
  rw [← n_lg hm, ← n_gg, Nat.gcd_mul_lcm]
def swN : Nat → List Nat → Nat × List Nat
  | c, [] => (c, [])
  | c, y :: t => ((swN (Nat.gcd c y) t).1, Nat.lcm c y :: (swN (Nat.gcd c y) t).2)
def chN : Nat → List Nat → List Nat
  | 0, _ => []
  | _ + 1, [] => []
  | n + 1, c :: t => (swN c t).1 :: chN n (swN c t).2
def cst (l : List Nat) : List Int := l.map Int.ofNat
theorem lc_cast (c y : Nat) : (y : Int) * ((c : Int) / (Int.gcd (c : Int) (y : Int) : Int)) = (Nat.lcm c y : Int) := by
  rw [Int.gcd_natCast_natCast, ← Int.natCast_ediv, ← Int.natCast_mul, Nat.lcm_eq_mul_div, Nat.mul_comm y, Nat.div_mul_right_comm (Nat.gcd_dvd_left ..)]
theorem sw_cast : ∀ (t : List Nat) (c : Nat), sweep (c : Int) (cst t) = ((((swN c t).1 : Nat) : Int), cst (swN c t).2)
  | [], c => rfl
  | y :: t, c => by
    have ih := sw_cast t (Nat.gcd c y)
    show ((sweep (Int.gcd (c : Int) (y : Int) : Int) (cst t)).1, (y : Int) * ((c : Int) / (Int.gcd (c : Int) (y : Int) : Int)) :: (sweep (Int.gcd (c : Int) (y : Int) : Int) (cst t)).2) = _
    rw [lc_cast, Int.gcd_natCast_natCast, ih]
    rfl
theorem ch_cast : ∀ (n : Nat) (l : List Nat), chainN n (cst l) = cst (chN n l)
  | 0, l => rfl
  | n + 1, [] => rfl
  | n + 1, c :: t => by
    show (sweep (c : Int) (cst t)).1 :: chainN n (sweep (c : Int) (cst t)).2 = _
    rw [sw_cast]
    show _ :: chainN n (cst (swN c t).2) = _
    rw [ch_cast n]
    rfl
def gcN (m : Nat) : List Nat → Nat
  | [] => 1
  | x :: t => Nat.gcd x m * gcN m t
def prN : List Nat → Nat
  | [] => 1
  | x :: t => x * prN t
theorem sw_gcN {m : Nat} (hm : 0 < m) : ∀ (t : List Nat) (c : Nat), Nat.gcd (swN c t).1 m * gcN m (swN c t).2 = Nat.gcd c m * gcN m t
  | [], c => rfl
  | y :: t, c => by
    have ih := sw_gcN hm t (Nat.gcd c y)
    have e := n_split (x := c) (y := y) hm
    show Nat.gcd (swN (Nat.gcd c y) t).1 m * (Nat.gcd (Nat.lcm c y) m * gcN m (swN (Nat.gcd c y) t).2) = Nat.gcd c m * (Nat.gcd y m * gcN m t)
    rw [Nat.mul_left_comm, ih, ← Nat.mul_assoc, ← Nat.mul_assoc, ← e, Nat.mul_comm (Nat.gcd (Nat.lcm c y) m)]
theorem sw_pr : ∀ (t : List Nat) (c : Nat), (swN c t).1 * prN (swN c t).2 = c * prN t
  | [], c => rfl
  | y :: t, c => by
    have ih := sw_pr t (Nat.gcd c y)
    have e := Nat.gcd_mul_lcm c y
    show (swN (Nat.gcd c y) t).1 * (Nat.lcm c y * prN (swN (Nat.gcd c y) t).2) = c * (y * prN t)
    rw [Nat.mul_left_comm, ih, ← Nat.mul_assoc, ← Nat.mul_assoc, ← e, Nat.mul_comm (Nat.lcm c y)]
theorem sw_len : ∀ (t : List Nat) (c : Nat), (swN c t).2.length = t.length
  | [], _ => rfl
  | y :: t, c => by simp [swN, sw_len t]
theorem sw_dv : ∀ (t : List Nat) (c : Nat), (swN c t).1 ∣ c ∧ (∀ y ∈ t, (swN c t).1 ∣ y) ∧ ∀ y ∈ (swN c t).2, (swN c t).1 ∣ y
  | [], c => ⟨Nat.dvd_refl _, fun y hy => by simp at hy, fun y hy => by simp [swN] at hy⟩
  | z :: t, c => by
    obtain ⟨h1, h2, h3⟩ := sw_dv t (Nat.gcd c z)
    have h4 : (swN (Nat.gcd c z) t).1 ∣ c := Nat.dvd_trans h1 (Nat.gcd_dvd_left ..)
    refine ⟨h4, fun y hy => ?_, fun y hy => ?_⟩
    · rcases List.mem_cons.mp hy with rfl | hy
      · exact Nat.dvd_trans h1 (Nat.gcd_dvd_right ..)
      · exact h2 y hy
    · rcases List.mem_cons.mp hy with rfl | hy
      · exact Nat.dvd_trans h4 (Nat.dvd_lcm_left ..)
      · exact h3 y hy
theorem sw_up : ∀ (t : List Nat) (c : Nat), ∀ e ∈ c :: t, ∃ e' ∈ (swN c t).1 :: (swN c t).2, e ∣ e'
  | [], c, e, he => ⟨c, by simp [swN], by simp at he; rw [he]; exact Nat.dvd_refl _⟩
  | z :: t, c, e, he => by
    have ih := sw_up t (Nat.gcd c z)
    rcases List.mem_cons.mp he with rfl | he
    · exact ⟨Nat.lcm e z, by simp [swN], Nat.dvd_lcm_left ..⟩
    · rcases List.mem_cons.mp he with rfl | he
      · exact ⟨Nat.lcm c e, by simp [swN], Nat.dvd_lcm_right ..⟩
      · obtain ⟨e', h1, h2⟩ := ih e (List.mem_cons_of_mem _ he)
        refine ⟨e', ?_, h2⟩
        rcases List.mem_cons.mp h1 with h | h
        · rw [h]; exact List.mem_cons_self
        · exact List.mem_cons_of_mem _ (List.mem_cons_of_mem _ h)
theorem sw_z {z : Nat} : ∀ (t : List Nat) (c : Nat), (∀ e ∈ c :: t, e ∣ z) → ∀ e ∈ (swN c t).1 :: (swN c t).2, e ∣ z
  | [], c, h, e, he => h e (by simpa [swN] using he)
  | y :: t, c, h, e, he => by
    have hc := h c List.mem_cons_self
    have hy := h y (by simp)
    have ih := sw_z t (Nat.gcd c y) (fun e he => by
      rcases List.mem_cons.mp he with rfl | he
      · exact Nat.dvd_trans (Nat.gcd_dvd_left ..) hc
      · exact h e (by simp [he]))
    rcases List.mem_cons.mp he with h1 | h1
    · exact ih e (by rw [h1]; exact List.mem_cons_self)
    · rcases List.mem_cons.mp h1 with h2 | h2
      · rw [h2]; exact Nat.lcm_dvd hc hy
      · exact ih e (List.mem_cons_of_mem _ h2)
def PW (z : Nat) (l : List Nat) : Prop := l.Pairwise (fun x y => Nat.gcd x y ∣ z)
theorem sw_pw {z : Nat} : ∀ (t : List Nat) (c : Nat), PW z ((swN c t).1 :: (swN c t).2) → PW z (c :: t)
  | [], c, _ => by unfold PW; simp
  | y :: t, c, h => by
    have h1 := List.pairwise_cons.mp h
    have h2 := List.pairwise_cons.mp h1.2
    have hr : PW z ((swN (Nat.gcd c y) t).1 :: (swN (Nat.gcd c y) t).2) := List.pairwise_cons.mpr ⟨fun e he => h1.1 e (List.mem_cons_of_mem _ he), h2.2⟩
    have ih := List.pairwise_cons.mp (sw_pw t (Nat.gcd c y) hr)
    have up := sw_up t (Nat.gcd c y)
    have hw : ∀ e ∈ (Nat.gcd c y) :: t, Nat.gcd (Nat.lcm c y) e ∣ z := fun e he => by
      obtain ⟨e', a1, a2⟩ := up e he
      refine Nat.dvd_trans (Nat.gcd_dvd_gcd_of_dvd_right _ a2) ?_
      rcases List.mem_cons.mp a1 with h | h
      · rw [h, Nat.gcd_comm]; exact h1.1 _ List.mem_cons_self
      · exact h2.1 _ h
    have hcy : Nat.gcd c y ∣ z := by
      have := hw (Nat.gcd c y) List.mem_cons_self
      rw [Nat.gcd_eq_right (Nat.dvd_trans (Nat.gcd_dvd_left ..) (Nat.dvd_lcm_left ..))] at this
      exact this
    refine List.pairwise_cons.mpr ⟨fun e he => ?_, List.pairwise_cons.mpr ⟨fun e he => ?_, ih.2⟩⟩
    · rcases List.mem_cons.mp he with rfl | he
      · exact hcy
      · exact Nat.dvd_trans (Nat.gcd_dvd_gcd_of_dvd_left _ (Nat.dvd_lcm_left ..)) (hw e (List.mem_cons_of_mem _ he))
    · exact Nat.dvd_trans (Nat.gcd_dvd_gcd_of_dvd_left _ (Nat.dvd_lcm_right ..)) (hw e (List.mem_cons_of_mem _ he))
theorem ch_gcN {m : Nat} (hm : 0 < m) : ∀ (n : Nat) (l : List Nat), l.length = n → gcN m (chN n l) = gcN m l
  | 0, l, h => by rw [List.length_eq_zero_iff.mp h]; rfl
  | n + 1, [], h => by simp at h
  | n + 1, c :: t, h => by
    show Nat.gcd (swN c t).1 m * gcN m (chN n (swN c t).2) = Nat.gcd c m * gcN m t
    rw [ch_gcN hm n _ (by rw [sw_len]; simpa using h), sw_gcN hm]
theorem ch_pr : ∀ (n : Nat) (l : List Nat), l.length = n → prN (chN n l) = prN l
  | 0, l, h => by rw [List.length_eq_zero_iff.mp h]; rfl
  | n + 1, [], h => by simp at h
  | n + 1, c :: t, h => by
    show (swN c t).1 * prN (chN n (swN c t).2) = c * prN t
    rw [ch_pr n _ (by rw [sw_len]; simpa using h), sw_pr]
theorem ch_len : ∀ (n : Nat) (l : List Nat), l.length = n → (chN n l).length = n
  | 0, l, h => rfl
  | n + 1, [], h => by simp at h
  | n + 1, c :: t, h => by simp [chN, ch_len n _ (by rw [sw_len]; simpa using h : (swN c t).2.length = n)]
theorem ch_up : ∀ (n : Nat) (l : List Nat), l.length = n → ∀ e ∈ l, ∃ e' ∈ chN n l, e ∣ e'
  | 0, l, h, e, he => by rw [List.length_eq_zero_iff.mp h] at he; simp at he
  | n + 1, [], h, _, _ => by simp at h
  | n + 1, c :: t, h, e, he => by
    obtain ⟨e1, a1, a2⟩ := sw_up t c e he
    rcases List.mem_cons.mp a1 with h1 | h1
    · exact ⟨e1, by rw [h1]; exact List.mem_cons_self, a2⟩
    · obtain ⟨e2, b1, b2⟩ := ch_up n (swN c t).2 (by rw [sw_len]; simpa using h) e1 h1
      exact ⟨e2, List.mem_cons_of_mem _ b1, Nat.dvd_trans a2 b2⟩
theorem ch_z {z : Nat} : ∀ (n : Nat) (l : List Nat), l.length = n → (∀ e ∈ l, e ∣ z) → ∀ e ∈ chN n l, e ∣ z
  | 0, l, h, _, e, he => by simp [chN] at he
  | n + 1, [], h, _, _, _ => by simp at h
  | n + 1, c :: t, h, hl, e, he => by
    have hz := sw_z t c hl
    rcases List.mem_cons.mp he with h1 | h1
    · exact hz e (by rw [h1]; exact List.mem_cons_self)
    · exact ch_z n (swN c t).2 (by rw [sw_len]; simpa using h) (fun e he => hz e (List.mem_cons_of_mem _ he)) e h1
theorem ch_g {g : Nat} : ∀ (n : Nat) (l : List Nat), l.length = n → (∀ e ∈ l, g ∣ e) → ∀ e ∈ chN n l, g ∣ e
  | 0, l, h, _, e, he => by simp [chN] at he
  | n + 1, [], h, _, _, _ => by simp at h
  | n + 1, c :: t, h, hl, e, he => by
    have hg : ∀ (t : List Nat) (c : Nat), (∀ e ∈ c :: t, g ∣ e) → ∀ e ∈ (swN c t).1 :: (swN c t).2, g ∣ e := by
      intro t
      induction t with
      | nil => intro c h e he; exact h e (by simpa [swN] using he)
      | cons y t ih =>
        intro c h e he
        have h0 := h c List.mem_cons_self
        have ih2 := ih (Nat.gcd c y) (fun e he => by
          rcases List.mem_cons.mp he with rfl | he
          · exact Nat.dvd_gcd h0 (h y (by simp))
          · exact h e (by simp [he]))
        rcases List.mem_cons.mp he with h1 | h1
        · exact ih2 e (by rw [h1]; exact List.mem_cons_self)
        · rcases List.mem_cons.mp h1 with h2 | h2
          · rw [h2]; exact Nat.dvd_trans h0 (Nat.dvd_lcm_left ..)
          · exact ih2 e (List.mem_cons_of_mem _ h2)
    have hz := hg t c hl
    rcases List.mem_cons.mp he with h1 | h1
    · exact hz e (by rw [h1]; exact List.mem_cons_self)
    · exact ch_g n (swN c t).2 (by rw [sw_len]; simpa using h) (fun e he => hz e (List.mem_cons_of_mem _ he)) e h1
theorem ch_pw {z : Nat} : ∀ (n : Nat) (l : List Nat), l.length = n → PW z (chN n l) → PW z l
  | 0, l, h, _ => by rw [List.length_eq_zero_iff.mp h]; exact List.Pairwise.nil
  | n + 1, [], h, _ => by simp at h
  | n + 1, c :: t, h, hp => by
    have h1 := List.pairwise_cons.mp hp
    have hl : (swN c t).2.length = n := by rw [sw_len]; simpa using h
    refine sw_pw t c (List.pairwise_cons.mpr ⟨fun e he => ?_, ch_pw n _ hl h1.2⟩)
    obtain ⟨e', a1, a2⟩ := ch_up n _ hl e he
    exact Nat.dvd_trans (Nat.gcd_dvd_gcd_of_dvd_right _ a2) (h1.1 e' a1)
theorem ch_sorted : ∀ (n : Nat) (l : List Nat), l.length = n → (chN n l).Pairwise (fun x y => x ∣ y)
  | 0, l, h => List.Pairwise.nil
  | n + 1, [], h => by simp at h
  | n + 1, c :: t, h => by
    have hl : (swN c t).2.length = n := by rw [sw_len]; simpa using h
    exact List.pairwise_cons.mpr ⟨ch_g n _ hl (sw_dv t c).2.2, ch_sorted n _ hl⟩
theorem gcN_app (m : Nat) (p q : List Nat) : gcN m (p ++ q) = gcN m p * gcN m q := by
  induction p with
  | nil => simp [gcN]
  | cons x t ih => simp [gcN, ih, Nat.mul_assoc]
theorem prN_app (p q : List Nat) : prN (p ++ q) = prN p * prN q := by
  induction p with
  | nil => simp [prN]
  | cons x t ih => simp [prN, ih, Nat.mul_assoc]
/-- all that is wanted of the chain -/
theorem ch_facts (l : List Nat) : ∃ (F : List Nat) (c L : Nat), (chN l.length l).take (l.length - 2) = F ∧ prN ((chN l.length l).take (l.length - 1)) = prN F * c ∧ prN l = prN F * c * L ∧ (∀ m, 0 < m → gcN m l = gcN m F * Nat.gcd c m * Nat.gcd L m) ∧ c ∣ L ∧ (∀ e ∈ l, e ∣ L) ∧ (∀ z, (∀ e ∈ l, e ∣ z) → L ∣ z) ∧ PW c l ∧ List.replicate (2 - l.length) 1 ++ chN l.length l = F ++ [c, L] := by
  have hlen := ch_len l.length l rfl
  have hpr := ch_pr l.length l rfl
  have hgn := fun m hm => ch_gcN (m := m) hm l.length l rfl
  have hup := ch_up l.length l rfl
  have hz := fun z => ch_z (z := z) l.length l rfl
  have hpw := fun z => ch_pw (z := z) l.length l rfl
  have hso := ch_sorted l.length l rfl
  generalize chN l.length l = C at *
  rcases list_end C with rfl | ⟨p, L, rfl⟩
  · simp at hlen
    have : l = [] := List.length_eq_zero_iff.mp hlen.symm
    subst this
    exact ⟨[], 1, 1, by simp, by simp [prN], by simp [prN], by simp [gcN], by simp, by simp, by simp, List.Pairwise.nil, by simp⟩
  · have hL : ∀ e ∈ p ++ [L], e ∣ L := fun e he => by
      rcases List.mem_append.mp he with h | h
      · exact (List.pairwise_append.mp hso).2.2 e h L (by simp)
      · simp at h; rw [h]; exact Nat.dvd_refl _
    have h6 : ∀ e ∈ l, e ∣ L := fun e he => by
      obtain ⟨e', a1, a2⟩ := hup e he
      exact Nat.dvd_trans a2 (hL e' a1)
    have h7 : ∀ z, (∀ e ∈ l, e ∣ z) → L ∣ z := fun z h => hz z h L (by simp)
    rcases list_end p with rfl | ⟨F, c, rfl⟩
    · simp at hlen
      refine ⟨[], 1, L, by rw [← hlen]; simp, by rw [← hlen]; simp [prN], by rw [← hpr]; simp [prN], fun m hm => by rw [← hgn m hm]; simp [gcN], by simp, h6, h7, hpw 1 ?_, by rw [← hlen]; simp⟩
      unfold PW; simp
    · simp at hlen
      refine ⟨F, c, L, ?_, ?_, ?_, fun m hm => ?_, hL c (by simp), h6, h7, hpw c ?_, by rw [← hlen]; simp⟩
      · rw [← hlen]; simp
      · rw [← hlen, show F.length + 1 + 1 - 1 = (F ++ [c]).length by simp, List.take_left, prN_app]; simp [prN]
      · rw [← hpr, prN_app, prN_app]; simp [prN]
      · rw [← hgn m hm, gcN_app, gcN_app]; simp [gcN]
      · have hs2 := List.pairwise_append.mp hso
        have hs3 := List.pairwise_append.mp hs2.1
        have hFc : ∀ e ∈ F ++ [c], e ∣ c := fun e he => by
          rcases List.mem_append.mp he with h | h
          · exact hs3.2.2 e h c (by simp)
          · simp at h; rw [h]; exact Nat.dvd_refl _
        refine List.pairwise_append.mpr ⟨?_, by simp, fun x hx y hy => Nat.dvd_trans (Nat.gcd_dvd_left ..) (hFc x hx)⟩
        exact hs2.1.imp_of_mem (fun {a b} ha hb _ => Nat.dvd_trans (Nat.gcd_dvd_left ..) (hFc a ha))
