/-! twos and odd parts -/
def sMin (e : Nat) : List Nat → Nat
  | [] => 0
  | x :: t => min x e + sMin e t
theorem sMin_le {e : Nat} : ∀ l : List Nat, sMin e l ≤ l.length * e
  | [] => by simp [sMin]
  | x :: t => by
    have := sMin_le (e := e) t
    simp only [sMin, List.length_cons, Nat.add_mul, Nat.one_mul]
    omega
theorem sMin_big {e : Nat} : ∀ l : List Nat, (∀ x ∈ l, e ≤ x) → sMin e l = l.length * e
  | [], _ => by simp [sMin]
  | x :: t, h => by
    have h1 := h x List.mem_cons_self
    have := sMin_big (e := e) t (fun y hy => h y (List.mem_cons_of_mem _ hy))
    simp only [sMin, List.length_cons, Nat.add_mul, Nat.one_mul]
    omega
theorem expo_lt {x y : Nat} {t f : List Nat} (hl : t.length = f.length) (hf : (y :: f).Pairwise (fun a b => a ≤ b)) (h8 : y ≤ 8) (he : ∀ e ≤ 8, sMin e (x :: t) = sMin e (y :: f)) : ¬ x < y := by
  intro h
  have h1 := he (x + 1) (by omega)
  have h2 := sMin_big (e := x + 1) (y :: f) (fun z hz => by
    rcases List.mem_cons.mp hz with rfl | hz
    · omega
    · have := (List.pairwise_cons.mp hf).1 z hz; omega)
  have h3 := sMin_le (e := x + 1) t
  rw [h2] at h1
  simp only [sMin, List.length_cons, Nat.add_mul, Nat.one_mul] at h1
  rw [hl] at h3
  omega
theorem expo_eq : ∀ (t f : List Nat), t.length = f.length → t.Pairwise (fun a b => a ≤ b) → f.Pairwise (fun a b => a ≤ b) → (∀ x ∈ t, x ≤ 8) → (∀ x ∈ f, x ≤ 8) → (∀ e ≤ 8, sMin e t = sMin e f) → t = f
  | [], [], _, _, _, _, _, _ => rfl
  | [], y :: f, h, _, _, _, _, _ => by simp at h
  | x :: t, [], h, _, _, _, _, _ => by simp at h
  | x :: t, y :: f, h, ht, hf, h8, g8, he => by
    have hl : t.length = f.length := by simpa using h
    have a1 := expo_lt hl hf (g8 y List.mem_cons_self) he
    have a2 := expo_lt hl.symm ht (h8 x List.mem_cons_self) (fun e h => (he e h).symm)
    have exy : x = y := by omega
    subst exy
    congr 1
    refine expo_eq t f hl (List.pairwise_cons.mp ht).2 (List.pairwise_cons.mp hf).2 (fun z hz => h8 z (List.mem_cons_of_mem _ hz)) (fun z hz => g8 z (List.mem_cons_of_mem _ hz)) (fun e h => ?_)
    have := he e h
    simp only [sMin] at this
    omega
def vlP (p : Nat × Nat) : Nat := p.1 * 2 ^ p.2
def oddP (p : Nat × Nat) : Prop := p.1 % 2 = 1 ∧ p.2 ≤ 4
theorem odd_cop {o e : Nat} (h : o % 2 = 1) : Nat.Coprime o (2 ^ e) := Nat.Coprime.pow_right e (by
  show Nat.gcd o 2 = 1
  rw [Nat.gcd_comm, Nat.gcd_rec, h]; rfl)
theorem vl_gcd {p q : Nat × Nat} (hp : p.1 % 2 = 1) (hq : q.1 % 2 = 1) : Nat.gcd (vlP p) (vlP q) = vlP (Nat.gcd p.1 q.1, min p.2 q.2) := by
  unfold vlP
  rw [Nat.Coprime.gcd_mul _ (odd_cop hq), pow_min hp]
  congr 1
  rw [Nat.mul_comm, Nat.Coprime.gcd_mul_left_cancel _ (Nat.Coprime.symm (odd_cop hq))]
theorem vl_lcm {p q : Nat × Nat} (hp : p.1 % 2 = 1) (hq : q.1 % 2 = 1) : Nat.lcm (vlP p) (vlP q) = vlP (Nat.lcm p.1 q.1, max p.2 q.2) := by
  have h1 := Nat.gcd_mul_lcm (vlP p) (vlP q)
  rw [vl_gcd hp hq] at h1
  have hg : 0 < Nat.gcd p.1 q.1 := Nat.gcd_pos_of_pos_left _ (by omega)
  have hpos : 0 < vlP (Nat.gcd p.1 q.1, min p.2 q.2) := Nat.mul_pos hg (Nat.pow_pos (by decide))
  refine Nat.eq_of_mul_eq_mul_left hpos ?_
  rw [h1]
  have h2 := Nat.gcd_mul_lcm p.1 q.1
  unfold vlP
  have h3 : 2 ^ (min p.2 q.2) * 2 ^ (max p.2 q.2) = 2 ^ p.2 * 2 ^ q.2 := by rw [← Nat.pow_add, ← Nat.pow_add]; congr 1; omega
  calc p.1 * 2 ^ p.2 * (q.1 * 2 ^ q.2) = (p.1 * q.1) * (2 ^ p.2 * 2 ^ q.2) := by grind
    _ = (Nat.gcd p.1 q.1 * Nat.lcm p.1 q.1) * (2 ^ (min p.2 q.2) * 2 ^ (max p.2 q.2)) := by rw [h2, h3]
    _ = _ := by grind
theorem odd_gcd {a b : Nat} (h : a % 2 = 1) : Nat.gcd a b % 2 = 1 := by
  have h1 := Nat.gcd_dvd_left a b
  rcases (show Nat.gcd a b % 2 = 0 ∨ Nat.gcd a b % 2 = 1 by omega) with h2 | h2
  · have : 2 ∣ a := Nat.dvd_trans (Nat.dvd_of_mod_eq_zero h2) h1
    omega
  · exact h2
theorem odd_lcm {a b : Nat} (h : a % 2 = 1) (h2 : b % 2 = 1) : Nat.lcm a b % 2 = 1 := by
  have h3 := Nat.lcm_dvd_mul a b
  rcases (show Nat.lcm a b % 2 = 0 ∨ Nat.lcm a b % 2 = 1 by omega) with h4 | h4
  · have h5 : 2 ∣ a * b := Nat.dvd_trans (Nat.dvd_of_mod_eq_zero h4) h3
    have h6 : (a * b) % 2 = 1 := by rw [Nat.mul_mod, h, h2]
    omega
  · exact h4
theorem sw_pair : ∀ (t : List (Nat × Nat)) (c : Nat × Nat), oddP c → (∀ p ∈ t, oddP p) → ∃ (c' : Nat × Nat) (t' : List (Nat × Nat)), swN (vlP c) (t.map vlP) = (vlP c', t'.map vlP) ∧ swN c.1 (t.map Prod.fst) = (c'.1, t'.map Prod.fst) ∧ oddP c' ∧ (∀ p ∈ t', oddP p) ∧ t'.length = t.length
  | [], c, hc, _ => ⟨c, [], rfl, rfl, hc, fun p hp => by simp at hp, rfl⟩
  | y :: t, c, hc, ht => by
    have hy := ht y List.mem_cons_self
    obtain ⟨c', t', h1, h2, h3, h4, h5⟩ := sw_pair t (Nat.gcd c.1 y.1, min c.2 y.2) ⟨odd_gcd hc.1, by have := hc.2; simp only; omega⟩ (fun p hp => ht p (List.mem_cons_of_mem _ hp))
    refine ⟨c', (Nat.lcm c.1 y.1, max c.2 y.2) :: t', ?_, ?_, h3, fun p hp => ?_, by simp [h5]⟩
    · show ((swN (Nat.gcd (vlP c) (vlP y)) (t.map vlP)).1, Nat.lcm (vlP c) (vlP y) :: (swN (Nat.gcd (vlP c) (vlP y)) (t.map vlP)).2) = _
      rw [vl_gcd hc.1 hy.1, vl_lcm hc.1 hy.1, h1]; rfl
    · show ((swN (Nat.gcd c.1 y.1) (t.map Prod.fst)).1, Nat.lcm c.1 y.1 :: (swN (Nat.gcd c.1 y.1) (t.map Prod.fst)).2) = _
      simp only at h2
      rw [h2]; rfl
    · rcases List.mem_cons.mp hp with rfl | hp
      · exact ⟨odd_lcm hc.1 hy.1, by have := hc.2; have := hy.2; simp only; omega⟩
      · exact h4 p hp
theorem ch_pair : ∀ (n : Nat) (l : List (Nat × Nat)), l.length = n → (∀ p ∈ l, oddP p) → ∃ l' : List (Nat × Nat), chN n (l.map vlP) = l'.map vlP ∧ chN n (l.map Prod.fst) = l'.map Prod.fst ∧ (∀ p ∈ l', oddP p) ∧ l'.length = n
  | 0, l, h, _ => ⟨[], rfl, rfl, fun p hp => by simp at hp, rfl⟩
  | n + 1, [], h, _ => by simp at h
  | n + 1, c :: t, h, hl => by
    obtain ⟨c', t', h1, h2, h3, h4, h5⟩ := sw_pair t c (hl c List.mem_cons_self) (fun p hp => hl p (List.mem_cons_of_mem _ hp))
    obtain ⟨l', k1, k2, k3, k4⟩ := ch_pair n t' (by rw [h5]; simpa using h) h4
    refine ⟨c' :: l', ?_, ?_, fun p hp => ?_, by simp [k4]⟩
    · show (swN (vlP c) (t.map vlP)).1 :: chN n (swN (vlP c) (t.map vlP)).2 = _
      rw [h1]; simp only; rw [k1]; rfl
    · show (swN c.1 (t.map Prod.fst)).1 :: chN n (swN c.1 (t.map Prod.fst)).2 = _
      rw [h2]; simp only; rw [k2]; rfl
    · rcases List.mem_cons.mp hp with rfl | hp
      · exact h3
      · exact k3 p hp
def odF : Nat → Nat → Nat
  | 0, a => a
  | n + 1, a => if a % 2 = 0 then odF n (a / 2) else a
def exF : Nat → Nat → Nat
  | 0, _ => 0
  | n + 1, a => if a % 2 = 0 then exF n (a / 2) + 1 else 0
theorem od_ok : ∀ a : Fin 31, 0 < a.val → a.val = odF 5 a.val * 2 ^ exF 5 a.val ∧ odF 5 a.val % 2 = 1 ∧ exF 5 a.val ≤ 4 := by decide +kernel
def odL (l : List Fib) : List Nat := l.map (fun x => odF 5 x.1.toNat)
theorem gcN_map {e : Nat} : ∀ (P : List (Nat × Nat)), (∀ p ∈ P, p.1 % 2 = 1) → gcN (2 ^ e) (P.map vlP) = 2 ^ sMin e (P.map Prod.snd)
  | [], _ => rfl
  | p :: P, h => by
    show Nat.gcd (vlP p) (2 ^ e) * gcN (2 ^ e) (P.map vlP) = 2 ^ (min p.2 e + sMin e (P.map Prod.snd))
    rw [gcN_map P (fun q hq => h q (List.mem_cons_of_mem _ hq)), Nat.pow_add]
    congr 1
    exact pow_min (h p List.mem_cons_self) _ _
theorem vl_le {p q : Nat × Nat} (hp : p.1 % 2 = 1) (hq : q.1 % 2 = 1) (h : vlP p ∣ vlP q) : p.2 ≤ q.2 := by
  have h1 : 2 ^ p.2 ∣ vlP q := Nat.dvd_trans (Nat.dvd_mul_left ..) h
  have h2 : 2 ^ p.2 ∣ 2 ^ q.2 := Nat.Coprime.dvd_of_dvd_mul_left (Nat.Coprime.symm (odd_cop hq)) h1
  exact (Nat.pow_dvd_pow_iff_le_right (by decide)).mp h2
theorem add1_one (T : List Int) : add1 T 1 = T := if_neg (by omega)
theorem fold_ones : ∀ (k : Nat) (l : List Nat) (T : List Int), (cst (List.replicate k 1 ++ l)).foldl add1 T = (cst l).foldl add1 T
  | 0, l, T => by simp
  | k + 1, l, T => by
    rw [List.replicate_succ, List.cons_append]
    show (cst (List.replicate k 1 ++ l)).foldl add1 (add1 T 1) = _
    rw [add1_one, fold_ones k l T]
theorem gcN_ones (m : Nat) : ∀ (k : Nat), gcN m (List.replicate k 1) = 1
  | 0 => rfl
  | k + 1 => by
    rw [List.replicate_succ]
    show Nat.gcd 1 m * gcN m (List.replicate k 1) = 1
    rw [gcN_ones m k]; simp
theorem zip_pairs : ∀ P : List (Nat × Nat), List.zipWith (fun o k => o * 2 ^ k) (P.map Prod.fst) (P.map Prod.snd) = P.map vlP
  | [] => rfl
  | p :: P => by
    show p.1 * 2 ^ p.2 :: _ = _
    rw [zip_pairs P]; rfl
theorem tor_1 {s : Sp} (hok : spOk s) (h1 : ¬ s.1 = 0) {t : List Nat} (hl : t.length = s.2.2.2.length + 2) (hs : t.Pairwise (fun a b => a ≤ b)) (h8 : ∀ x ∈ t, x ≤ 8) (hc : ∀ e ≤ 8, cntS (2 ^ e) 0 (s.2.2.2.length + 2) (grd s) = ((2 ^ sMin e t : Nat) : Int)) :
    torC s = (cst (List.zipWith (fun o k => o * 2 ^ k) (1 :: 1 :: chN s.2.2.2.length (odL s.2.2.2)) t)).foldl add1 [] := by
  obtain ⟨F, c, L, ε, p1, p2, p3, p4, p5, p6, p7, p8, p9, p10, p11, p12, p13, p14, p15⟩ := tor_facts hok
  have hf := hok.2.2.2.2.2.2
  generalize hn : s.2.2.2.length = n at hl hc ⊢
  have hnt : (ntL s.2.2.2).length = n := by simp [ntL, hn]
  rw [hnt] at p15
  -- pairs
  have hP : ∀ x ∈ s.2.2.2, x.1.toNat = vlP (odF 5 x.1.toNat, exF 5 x.1.toNat) ∧ oddP (odF 5 x.1.toNat, exF 5 x.1.toNat) := fun x hx => by
    have h := hf x hx
    have := od_ok ⟨x.1.toNat, by have := h.1; have := h.2.1; omega⟩ (by have := h.1; show 0 < x.1.toNat; omega)
    exact ⟨this.1, this.2.1, this.2.2⟩
  obtain ⟨l', k1, k2, k3, k4⟩ := ch_pair n (s.2.2.2.map (fun x => (odF 5 x.1.toNat, exF 5 x.1.toNat))) (by simp [hn]) (fun p hp => by
    obtain ⟨x, hx, rfl⟩ := List.mem_map.mp hp
    exact (hP x hx).2)
  have e1 : (s.2.2.2.map (fun x => (odF 5 x.1.toNat, exF 5 x.1.toNat))).map vlP = ntL s.2.2.2 := by
    rw [List.map_map]
    exact List.map_congr_left (fun x hx => (hP x hx).1.symm)
  have e2 : (s.2.2.2.map (fun x => (odF 5 x.1.toNat, exF 5 x.1.toNat))).map Prod.fst = odL s.2.2.2 := by
    rw [List.map_map]; rfl
  rw [e1] at k1
  rw [e2] at k2
  have hC := ch_sorted n (ntL s.2.2.2) hnt
  rw [k1] at p15 hC
  have hQ : (List.replicate (2 - n) ((1, 0) : Nat × Nat) ++ l').map vlP = F ++ [c, L] := by
    rw [← p15, List.map_append]
    congr 1
    simp [vlP]
  have hodd : ∀ p ∈ List.replicate (2 - n) ((1, 0) : Nat × Nat) ++ l', oddP p := fun p hp => by
    rcases List.mem_append.mp hp with h | h
    · rw [(List.mem_replicate.mp h).2]; exact ⟨rfl, by simp⟩
    · exact k3 p h
  have hdv : ((List.replicate (2 - n) ((1, 0) : Nat × Nat) ++ l').map vlP).Pairwise (fun x y => x ∣ y) := by
    rw [List.map_append]
    refine List.pairwise_append.mpr ⟨?_, hC, fun x hx y hy => ?_⟩
    · simp [vlP, List.pairwise_replicate]
    · simp [vlP] at hx; rw [hx.2]; exact Nat.one_dvd y
  have hfst : (List.replicate (2 - n) ((1, 0) : Nat × Nat) ++ l').map Prod.fst = List.replicate (2 - n) 1 ++ chN n (odL s.2.2.2) := by
    rw [List.map_append, k2]; simp
  have hlen : (List.replicate (2 - n) ((1, 0) : Nat × Nat) ++ l').length = 2 - n + n := by simp [k4]
  generalize List.replicate (2 - n) ((1, 0) : Nat × Nat) ++ l' = P at hQ hodd hdv hfst hlen
  rcases list_end P with rfl | ⟨P1, pL, rfl⟩
  · simp at hQ
  rcases list_end P1 with rfl | ⟨P2, pc, rfl⟩
  · have := congrArg List.length hQ; simp at this
  have hcut : P2.map vlP = F ∧ vlP pc = c ∧ vlP pL = L := by
    have h : P2.map vlP ++ [vlP pc, vlP pL] = F ++ [c, L] := by simpa using hQ
    have h2 := List.append_inj' h rfl
    exact ⟨h2.1, by have := h2.2; simp at this; exact this.1, by have := h2.2; simp at this; exact this.2⟩
  obtain ⟨hF, hcc, hLL⟩ := hcut
  have opc := hodd pc (by simp)
  have opL := hodd pL (by simp)
  have hg2 : Nat.gcd ε.natAbs 2 = 1 ∨ Nat.gcd ε.natAbs 2 = 2 := by
    have := Nat.le_of_dvd (by decide) (Nat.gcd_dvd_right ε.natAbs 2)
    have := Nat.gcd_pos_of_pos_right ε.natAbs (show 0 < 2 by decide)
    omega
  obtain ⟨γ, hγ, hγ2, hγ4⟩ : ∃ γ : Nat, γ ≤ 1 ∧ Nat.gcd ε.natAbs 2 = 2 ^ γ ∧ 4 / Nat.gcd ε.natAbs 2 = 2 ^ (2 - γ) := by
    rcases hg2 with h | h
    · exact ⟨0, by omega, by rw [h], by rw [h]⟩
    · exact ⟨1, by omega, by rw [h], by rw [h]⟩
  have ex : c * Nat.gcd ε.natAbs 2 = vlP (pc.1, pc.2 + γ) := by
    rw [hγ2, ← hcc]; unfold vlP; rw [Nat.mul_assoc, ← Nat.pow_add]
  have ey : 4 / Nat.gcd ε.natAbs 2 * L = vlP (pL.1, pL.2 + (2 - γ)) := by
    rw [hγ4, ← hLL]; unfold vlP; rw [Nat.mul_left_comm, ← Nat.pow_add, Nat.add_comm]
  have hX : (List.replicate (n + 2 - (2 - n + n)) ((1, 0) : Nat × Nat) ++ (P2 ++ [(pc.1, pc.2 + γ), (pL.1, pL.2 + (2 - γ))])).map vlP = List.replicate (n + 2 - (2 - n + n)) 1 ++ (F ++ [c * Nat.gcd ε.natAbs 2, 4 / Nat.gcd ε.natAbs 2 * L]) := by
    rw [List.map_append, List.map_append, hF, ex, ey]
    congr 1
    simp [vlP]
  have hXf : (List.replicate (n + 2 - (2 - n + n)) ((1, 0) : Nat × Nat) ++ (P2 ++ [(pc.1, pc.2 + γ), (pL.1, pL.2 + (2 - γ))])).map Prod.fst = 1 :: 1 :: chN n (odL s.2.2.2) := by
    have h : P2.map Prod.fst ++ [pc.1, pL.1] = List.replicate (2 - n) 1 ++ chN n (odL s.2.2.2) := by rw [← hfst]; simp
    rw [List.map_append, List.map_append]
    show _ ++ (P2.map Prod.fst ++ [pc.1, pL.1]) = _
    rw [h, List.map_replicate, ← List.append_assoc, List.replicate_append_replicate, show n + 2 - (2 - n + n) + (2 - n) = 2 by omega]
    rfl
  have hXo : ∀ p ∈ List.replicate (n + 2 - (2 - n + n)) ((1, 0) : Nat × Nat) ++ (P2 ++ [(pc.1, pc.2 + γ), (pL.1, pL.2 + (2 - γ))]), p.1 % 2 = 1 ∧ p.2 ≤ 8 := fun p hp => by
    rcases List.mem_append.mp hp with h | h
    · rw [(List.mem_replicate.mp h).2]; simp
    · rcases List.mem_append.mp h with h | h
      · have := hodd p (by simp [h]); exact ⟨this.1, by have := this.2; omega⟩
      · have := opc.2
        have := opL.2
        simp at h
        rcases h with rfl | rfl
        · exact ⟨opc.1, by simp only; omega⟩
        · exact ⟨opL.1, by simp only; omega⟩
  have hXs : ((List.replicate (n + 2 - (2 - n + n)) ((1, 0) : Nat × Nat) ++ (P2 ++ [(pc.1, pc.2 + γ), (pL.1, pL.2 + (2 - γ))])).map Prod.snd).Pairwise (fun a b => a ≤ b) := by
    have hd2 := List.pairwise_map.mp hdv
    have hle : (P2 ++ [pc] ++ [pL]).Pairwise (fun a b => a.2 ≤ b.2) := hd2.imp_of_mem (fun {a b} ha hb h => vl_le (hodd a ha).1 (hodd b hb).1 h)
    have q1 := List.pairwise_append.mp hle
    have q2 := List.pairwise_append.mp q1.1
    have hcL : pc.2 ≤ pL.2 := q1.2.2 pc (by simp) pL (by simp)
    rw [List.map_append]
    refine List.pairwise_append.mpr ⟨by simp [List.pairwise_replicate], ?_, fun x hx y hy => ?_⟩
    · rw [List.map_append]
      refine List.pairwise_append.mpr ⟨List.pairwise_map.mpr q2.1, ?_, fun x hx y hy => ?_⟩
      · simp; omega
      · obtain ⟨p, hp, rfl⟩ := List.mem_map.mp hx
        have r1 := q2.2.2 p hp pc (by simp)
        simp at hy
        rcases hy with rfl | rfl <;> omega
    · simp at hx; omega
  generalize hXX : List.replicate (n + 2 - (2 - n + n)) ((1, 0) : Nat × Nat) ++ (P2 ++ [(pc.1, pc.2 + γ), (pL.1, pL.2 + (2 - γ))]) = X at hX hXf hXo hXs
  have hXl : (X.map Prod.snd).length = n + 2 := by
    have := congrArg List.length hXf
    rw [List.length_map] at this ⊢
    rw [this]; simp [ch_len n (odL s.2.2.2) (by simp [odL, hn])]
  have hte : t = X.map Prod.snd := by
    refine expo_eq t _ (by rw [hl, hXl]) hs hXs h8 (fun x hx => ?_) (fun e he => ?_)
    · obtain ⟨p, hp, rfl⟩ := List.mem_map.mp hx
      exact (hXo p hp).2
    · have hm : 0 < 2 ^ e := Nat.pow_pos (by decide)
      have hd : ((2 ^ e : Nat) : Int) ∣ 256 := Int.natCast_dvd_natCast.mpr (show 2 ^ e ∣ 2 ^ 8 from Nat.pow_dvd_pow 2 he)
      have h2 := hc e he
      rw [← hn, cnt_nO hd, nO_eq hok hm (p9 _ hm) p10 p11 p12 p13] at h2
      have h3 : gcN (2 ^ e) (X.map vlP) = gcN (2 ^ e) F * Nat.gcd (c * Nat.gcd ε.natAbs 2) (2 ^ e) * Nat.gcd (4 / Nat.gcd ε.natAbs 2 * L) (2 ^ e) := by
        rw [hX, gcN_app, gcN_ones, gcN_app]; simp [gcN, Nat.mul_assoc]
      rw [← h3, gcN_map X (fun p hp => (hXo p hp).1)] at h2
      exact ((Nat.pow_right_inj (by decide : 1 < 2)).mp (Int.ofNat.inj h2)).symm
  rw [hte, ← hXf, zip_pairs, hX, fold_ones, p5 h1]
  unfold foldT
  show _ = (cst (F ++ [c * Nat.gcd ε.natAbs 2, 4 / Nat.gcd ε.natAbs 2 * L])).foldl add1 []
  unfold cst
  rw [List.map_append, List.foldl_append]
  rfl
