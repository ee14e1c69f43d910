/-! the grid's solutions are the maps of a space of kind 1 -/
/-- fibres have the variables j, j + 1 .. -/
def idxL : List Fib → Nat → List Nat
  | [], _ => []
  | _ :: t, j => idxL t (j + 1) ++ [j]
def okQ (m : Nat) (h : Int) : List Fib → Nat → (Nat → Int) → Prop
  | [], _, _ => True
  | x :: t, j, y => (x.1 * y j + x.2 * h) % m = 0 ∧ okQ m h t (j + 1) y
def sQ : List Fib → Nat → (Nat → Int) → Int
  | [], _, _ => 0
  | _ :: t, j, y => y j + sQ t (j + 1) y
theorem okQ_up {m : Nat} {h a : Int} {y : Nat → Int} {v : Nat} : ∀ (l : List Fib) (j : Nat), v < j → (okQ m h l j (upx y v a) ↔ okQ m h l j y)
  | [], _, _ => Iff.rfl
  | x :: t, j, hv => by
    have ih := okQ_up (m := m) (h := h) (a := a) (y := y) t (j + 1) (show v < j + 1 by omega)
    show _ ∧ _ ↔ _ ∧ _
    rw [ih, show upx y v a j = y j by unfold upx; rw [if_neg (by omega)]]
theorem sQ_up {a : Int} {y : Nat → Int} {v : Nat} : ∀ (l : List Fib) (j : Nat), v < j → sQ l j (upx y v a) = sQ l j y
  | [], _, _ => rfl
  | x :: t, j, hv => by
    show _ + _ = _ + _
    rw [sQ_up t (j + 1) (by omega), show upx y v a j = y j by unfold upx; rw [if_neg (by omega)]]
theorem way_sumV {m : Nat} {h : Int} : ∀ (l : List Fib) (j : Nat) (w : Int → Int) (z : Int) (x : Nat → Int), wayM m h l w z = sumV m (idxL l j) (fun y => cif (okQ m h l j y) (w (z - sQ l j y)) 0) x
  | [], j, w, z, x => by
    show w z = cif True (w (z - 0)) 0
    rw [cif_pos trivial, Int.sub_zero]
  | f :: t, j, w, z, x => by
    show wayM m h t (gfP m f.1 f.2 h w) z = sumV m (idxL t (j + 1) ++ [j]) _ x
    rw [way_sumV t (j + 1) _ z x, sumV_snoc]
    refine sumV_congr (fun y => ?_) _ _
    have e : ∀ a : Int, okQ m h (f :: t) j (upx y j a) ↔ (f.1 * a + f.2 * h) % m = 0 ∧ okQ m h t (j + 1) y := fun a => by
      show _ ∧ _ ↔ _
      rw [okQ_up t (j + 1) (by omega), show upx y j a j = a by unfold upx; rw [if_pos rfl]]
    have e2 : ∀ a : Int, sQ (f :: t) j (upx y j a) = a + sQ t (j + 1) y := fun a => by
      show _ + _ = _
      rw [sQ_up t (j + 1) (by omega), show upx y j a j = a by unfold upx; rw [if_pos rfl]]
    by_cases q : okQ m h t (j + 1) y
    · rw [cif_pos q]
      unfold gfP
      refine sumN_congr m (fun a _ => ?_)
      by_cases q2 : (f.1 * (a : Int) + f.2 * h) % m = 0
      · rw [if_pos q2, cif_pos ((e a).mpr ⟨q2, q⟩), e2]; congr 1; omega
      · rw [if_neg q2, cif_neg (fun h => q2 ((e a).mp h).1)]
    · rw [cif_neg q, sumN_congr (g := fun _ => 0) m (fun a _ => cif_neg (fun h => q ((e a).mp h).2)), sumN_zero]
theorem idxL_mem : ∀ (l : List Fib) (j c : Nat), c ∈ idxL l j ↔ j ≤ c ∧ c < j + l.length
  | [], j, c => by simp [idxL]
  | x :: t, j, c => by
    simp only [idxL, List.mem_append, idxL_mem t (j + 1) c, List.mem_singleton, List.length_cons]
    omega
theorem idxL_nodup : ∀ (l : List Fib) (j : Nat), (idxL l j).Nodup
  | [], _ => List.nodup_nil
  | x :: t, j => by
    refine List.pairwise_append.mpr ⟨idxL_nodup t (j + 1), by simp, fun a ha b hb => ?_⟩
    have := (idxL_mem t (j + 1) a).mp ha
    simp at hb
    omega
/-- the grid of a space: H, its fibres, and one V -/
def grd (s : Sp) (r c : Nat) : Int :=
  if r = 0 then (if c = 0 then 2 else 0)
  else if r = s.2.2.2.length + 1 then (if c = 0 then (-s.2.2.1) % 256 else if c = s.2.2.2.length + 1 then 2 else if c ≤ s.2.2.2.length then 1 else 0)
  else if r ≤ s.2.2.2.length then (if c = 0 then (fibAt s ((r : Int) - 1)).2 else if c = r then (fibAt s ((r : Int) - 1)).1 else 0) else 0
theorem lin_zero {A x : Nat → Int} : ∀ cs : List Nat, (∀ c ∈ cs, A c = 0) → lin cs A x = 0
  | [], _ => rfl
  | c :: cs, h => by
    show A c * x c + lin cs A x = 0
    rw [h c List.mem_cons_self, lin_zero cs (fun d hd => h d (List.mem_cons_of_mem _ hd))]; simp
theorem lin_one {A x : Nat → Int} {v : Nat} : ∀ cs : List Nat, cs.Nodup → v ∈ cs → (∀ c ∈ cs, c ≠ v → A c = 0) → lin cs A x = A v * x v
  | [], _, h, _ => by simp at h
  | c :: cs, hn, hv, h => by
    have hn2 := List.nodup_cons.mp hn
    show A c * x c + lin cs A x = _
    by_cases e : c = v
    · subst e
      rw [lin_zero cs (fun d hd => h d (List.mem_cons_of_mem _ hd) (fun e => hn2.1 (e ▸ hd)))]; simp
    · rw [h c List.mem_cons_self e, lin_one cs hn2.2 (by rcases List.mem_cons.mp hv with h | h; exact absurd h.symm e; exact h) (fun d hd => h d (List.mem_cons_of_mem _ hd))]; simp
theorem lin_sQ {A x : Nat → Int} {tl : Int} : ∀ (l : List Fib) (j s : Nat), s = j + l.length → (∀ c, j ≤ c → c < s → A c = 1) → lin (rgN j s) A x = sQ l j x
  | [], j, s, hs, _ => by
    have : rgN j s = [] := by unfold rgN; rw [hs]; simp
    rw [this]; rfl
  | f :: t, j, s, hs, h => by
    simp only [List.length_cons] at hs
    rw [rgN_cons (by omega)]
    show A j * x j + lin (rgN (j + 1) s) A x = x j + sQ t (j + 1) x
    rw [h j (by omega) (by omega), lin_sQ (tl := 0) t (j + 1) s (by omega) (fun c h1 h2 => h c (by omega) h2), Int.one_mul]
theorem rgN_snoc {j s : Nat} (h : j ≤ s) : rgN j (s + 1) = rgN j s ++ [s] := by
  unfold rgN
  rw [show s + 1 - j = (s - j) + 1 by omega, List.range'_concat]
  congr 2
  omega
theorem lin_app {A x : Nat → Int} : ∀ (cs ds : List Nat), lin (cs ++ ds) A x = lin cs A x + lin ds A x
  | [], ds => by simp [lin]
  | c :: cs, ds => by show A c * x c + lin (cs ++ ds) A x = A c * x c + lin cs A x + lin ds A x; rw [lin_app cs ds]; omega
theorem okQ_iff {m : Nat} {h : Int} {s : Sp} {y : Nat → Int} : ∀ (q p : List Fib), p ++ q = s.2.2.2 → (okQ m h q (p.length + 1) y ↔ ∀ r, p.length < r → r ≤ s.2.2.2.length → (m : Int) ∣ (fibAt s ((r : Int) - 1)).2 * h + (fibAt s ((r : Int) - 1)).1 * y r)
  | [], p, e => by
    have : p.length = s.2.2.2.length := by rw [← e]; simp
    exact ⟨fun _ r h1 h2 => by omega, fun _ => trivial⟩
  | x :: q, p, e => by
    have ih := okQ_iff (m := m) (h := h) (y := y) q (p ++ [x]) (by rw [← e]; simp)
    have hl : p.length + 1 + q.length = s.2.2.2.length := by rw [← e]; simp; omega
    have hat : fibAt s (((p.length + 1 : Nat) : Int) - 1) = x := by
      unfold fibAt
      rw [show (((p.length + 1 : Nat) : Int) - 1).toNat = p.length by omega, ← e]; simp
    rw [show (p ++ [x]).length = p.length + 1 by simp] at ih
    show _ ∧ okQ m h q (p.length + 1 + 1) y ↔ _
    rw [ih]
    constructor
    · rintro ⟨h1, h2⟩ r h3 h4
      rcases Nat.lt_or_ge (p.length + 1) r with h5 | h5
      · exact h2 r h5 h4
      · obtain rfl : r = p.length + 1 := by omega
        rw [hat, Int.add_comm]
        exact Int.dvd_of_emod_eq_zero h1
    · intro h1
      refine ⟨?_, fun r h3 h4 => h1 r (by omega) h4⟩
      have := h1 (p.length + 1) (by omega) (by omega)
      rw [hat, Int.add_comm] at this
      exact Int.emod_eq_zero_of_dvd this
theorem grd_sys {m : Nat} {s : Sp} (hm : (m : Int) ∣ 256) (y : Nat → Int) : sysS m 0 (s.2.2.2.length + 2) (grd s) y ↔ (2 * y 0) % m = 0 ∧ okQ m (y 0) s.2.2.2 1 y ∧ (m : Int) ∣ s.2.2.1 * y 0 - 2 * y (s.2.2.2.length + 1) - sQ s.2.2.2 1 y := by
  generalize hn : s.2.2.2.length = n
  have hN : n + 2 = n + 1 + 1 := rfl
  have r0 : lin (rgN 0 (n + 2)) (grd s 0) y = 2 * y 0 := by
    rw [lin_one (v := 0) _ rgN_nodup (rgN_mem.mpr (by omega)) (fun c _ hc => by unfold grd; rw [if_pos rfl, if_neg hc])]
    unfold grd; rw [if_pos rfl, if_pos rfl]
  have rf : ∀ r, 0 < r → r ≤ n → lin (rgN 0 (n + 2)) (grd s r) y = (fibAt s ((r : Int) - 1)).2 * y 0 + (fibAt s ((r : Int) - 1)).1 * y r := fun r h1 h2 => by
    have g0 : grd s r 0 = (fibAt s ((r : Int) - 1)).2 := by unfold grd; rw [hn, if_neg (by omega), if_neg (by omega), if_pos h2, if_pos rfl]
    have gr : grd s r r = (fibAt s ((r : Int) - 1)).1 := by unfold grd; rw [hn, if_neg (by omega), if_neg (by omega), if_pos h2, if_neg (by omega), if_pos rfl]
    rw [rgN_cons (by omega)]
    show grd s r 0 * y 0 + lin (rgN (0 + 1) (n + 2)) (grd s r) y = _
    rw [lin_one (v := r) _ rgN_nodup (rgN_mem.mpr (by omega)) (fun c hc hne => by
      have := rgN_mem.mp hc
      unfold grd; rw [hn, if_neg (by omega), if_neg (by omega), if_pos h2, if_neg (by omega), if_neg hne]), g0, gr]
  have rl : lin (rgN 0 (n + 2)) (grd s (n + 1)) y = (-s.2.2.1) % 256 * y 0 + (sQ s.2.2.2 1 y + 2 * y (n + 1)) := by
    have g0 : grd s (n + 1) 0 = (-s.2.2.1) % 256 := by unfold grd; rw [hn, if_neg (by omega), if_pos rfl, if_pos rfl]
    have g1 : grd s (n + 1) (n + 1) = 2 := by unfold grd; rw [hn, if_neg (by omega), if_pos rfl, if_neg (by omega), if_pos rfl]
    have g2 : ∀ c, 1 ≤ c → c < n + 1 → grd s (n + 1) c = 1 := fun c h1 h2 => by unfold grd; rw [hn, if_neg (by omega), if_pos rfl, if_neg (by omega), if_neg (by omega), if_pos (by omega)]
    rw [rgN_cons (by omega), hN, rgN_snoc (by omega)]
    show grd s (n + 1) 0 * y 0 + lin (rgN 1 (n + 1) ++ [n + 1]) (grd s (n + 1)) y = _
    rw [lin_app, g0, lin_sQ (tl := 0) s.2.2.2 1 (n + 1) (by omega) g2]
    show _ + (_ + (grd s (n + 1) (n + 1) * y (n + 1) + 0)) = _
    rw [g1, Int.add_zero]
  have hsh : (m : Int) ∣ (-s.2.2.1) % 256 - (-s.2.2.1) := by
    refine Int.dvd_trans hm ⟨-(-s.2.2.1 / 256), ?_⟩
    have := Int.mul_ediv_add_emod (-s.2.2.1) 256
    omega
  have hlast : (m : Int) ∣ lin (rgN 0 (n + 2)) (grd s (n + 1)) y ↔ (m : Int) ∣ s.2.2.1 * y 0 - 2 * y (n + 1) - sQ s.2.2.2 1 y := by
    rw [rl]
    have e : (-s.2.2.1) % 256 * y 0 + (sQ s.2.2.2 1 y + 2 * y (n + 1)) = ((-s.2.2.1) % 256 - (-s.2.2.1)) * y 0 - (s.2.2.1 * y 0 - 2 * y (n + 1) - sQ s.2.2.2 1 y) := by grind
    rw [e]
    have hd : (m : Int) ∣ ((-s.2.2.1) % 256 - (-s.2.2.1)) * y 0 := Int.dvd_trans hsh (Int.dvd_mul_right ..)
    constructor
    · intro h
      have := Int.dvd_sub hd h
      rw [show ((-s.2.2.1) % 256 - (-s.2.2.1)) * y 0 - (((-s.2.2.1) % 256 - (-s.2.2.1)) * y 0 - (s.2.2.1 * y 0 - 2 * y (n + 1) - sQ s.2.2.2 1 y)) = s.2.2.1 * y 0 - 2 * y (n + 1) - sQ s.2.2.2 1 y by omega] at this
      exact this
    · intro h; exact Int.dvd_sub hd h
  have hq := okQ_iff (m := m) (h := y 0) (y := y) (s := s) s.2.2.2 [] rfl
  rw [hn] at hq
  rw [show okQ m (y 0) s.2.2.2 1 y ↔ _ from hq]
  constructor
  · intro h
    refine ⟨?_, fun r h1 h2 => ?_, hlast.mp (h (n + 1) (by omega) (by omega))⟩
    · have := h 0 (by omega) (by omega)
      rw [r0] at this
      exact Int.emod_eq_zero_of_dvd this
    · have := h r (by omega) (by omega)
      rw [rf r h1 h2] at this
      exact this
  · rintro ⟨h1, h2, h3⟩ r h4 h5
    rcases Nat.eq_zero_or_pos r with h6 | h6
    · subst h6; rw [r0]; exact Int.dvd_of_emod_eq_zero h1
    · rcases Nat.lt_or_ge n r with h7 | h7
      · obtain rfl : r = n + 1 := by omega
        exact hlast.mpr h3
      · rw [rf r h6 h7]; exact h2 r h6 h7
theorem cnt_nO {m : Nat} {s : Sp} (hm : (m : Int) ∣ 256) : cntS m 0 (s.2.2.2.length + 2) (grd s) = nO s m := by
  unfold cntS
  have hperm : (rgN 0 (s.2.2.2.length + 2)).Perm (0 :: (s.2.2.2.length + 1) :: idxL s.2.2.2 1) := by
    refine (List.perm_ext_iff_of_nodup rgN_nodup ?_).mpr (fun c => ?_)
    · refine List.nodup_cons.mpr ⟨fun h => ?_, List.nodup_cons.mpr ⟨fun h => ?_, idxL_nodup _ _⟩⟩
      · rcases List.mem_cons.mp h with h | h
        · omega
        · have := (idxL_mem _ _ _).mp h; omega
      · have := (idxL_mem _ _ _).mp h; omega
    · rw [rgN_mem, List.mem_cons, List.mem_cons, idxL_mem]; omega
  rw [sumV_perm hperm rgN_nodup]
  unfold nO
  show sumN m (fun h => sumN m (fun v => sumV m (idxL s.2.2.2 1) _ (upx (upx (fun _ => 0) 0 h) (s.2.2.2.length + 1) v))) = _
  refine sumN_congr m (fun h _ => ?_)
  have key : ∀ v : Int, sumV m (idxL s.2.2.2 1) (fun x => cif (sysS m 0 (s.2.2.2.length + 2) (grd s) x) (1 : Int) 0) (upx (upx (fun _ => 0) 0 h) (s.2.2.2.length + 1) v) = sumV m (idxL s.2.2.2 1) (fun y => cif ((2 * (h : Int)) % m = 0) (cif (okQ m h s.2.2.2 1 y) (ind m (s.2.2.1 * h - 2 * v - sQ s.2.2.2 1 y)) 0) 0) (upx (upx (fun _ => 0) 0 h) (s.2.2.2.length + 1) v) := by
    intro v
    have hgen : ∀ (vs : List Nat) (x : Nat → Int), (∀ c ∈ vs, c ≠ 0 ∧ c ≠ s.2.2.2.length + 1) → x 0 = h → x (s.2.2.2.length + 1) = v → sumV m vs (fun x => cif (sysS m 0 (s.2.2.2.length + 2) (grd s) x) (1 : Int) 0) x = sumV m vs (fun y => cif ((2 * (h : Int)) % m = 0) (cif (okQ m h s.2.2.2 1 y) (ind m (s.2.2.1 * h - 2 * v - sQ s.2.2.2 1 y)) 0) 0) x := by
      intro vs
      induction vs with
      | nil =>
        intro x _ h0 h1
        show cif _ 1 0 = cif _ _ _
        have hs := grd_sys (s := s) hm x
        rw [h0, h1] at hs
        rw [cif_iff hs]
        by_cases q1 : (2 * (h : Int)) % m = 0
        · rw [cif_pos q1]
          by_cases q2 : okQ m h s.2.2.2 1 x
          · rw [cif_pos q2]
            by_cases q3 : (m : Int) ∣ s.2.2.1 * h - 2 * v - sQ s.2.2.2 1 x
            · rw [cif_pos ⟨q1, q2, q3⟩, ind_1 q3]
            · rw [cif_neg (fun h => q3 h.2.2), ind_0 q3]
          · rw [cif_neg (fun h => q2 h.2.1), cif_neg q2]
        · rw [cif_neg (fun h => q1 h.1), cif_neg q1]
      | cons c vs ih =>
        intro x hv h0 h1
        have hc := hv c List.mem_cons_self
        refine sumN_congr m (fun a _ => ih _ (fun d hd => hv d (List.mem_cons_of_mem _ hd)) ?_ ?_)
        · unfold upx; rw [if_neg (by omega)]; exact h0
        · unfold upx; rw [if_neg (by omega)]; exact h1
    refine hgen _ _ (fun c hc => by have := (idxL_mem _ _ _).mp hc; omega) ?_ ?_
    · unfold upx; rw [if_neg (by omega), if_pos rfl]
    · unfold upx; rw [if_pos rfl]
  rw [sumN_congr (g := fun v => if (2 * (h : Int)) % m = 0 then wayM m h s.2.2.2 (ind m) (s.2.2.1 * h - 2 * v) else 0) m (fun v _ => by
    rw [key v]
    by_cases q : (2 * (h : Int)) % m = 0
    · rw [if_pos q, way_sumV s.2.2.2 1 (ind m) (s.2.2.1 * h - 2 * v) (upx (upx (fun _ => 0) 0 h) (s.2.2.2.length + 1) v)]
      exact sumV_congr (fun y => cif_pos q) _ _
    · rw [if_neg q]
      rw [sumV_congr (g := fun _ => 0 * 0) (fun y => by rw [cif_neg q]; rfl), sumV_mul 0 (f := fun _ => 0), Int.zero_mul])]
  by_cases q : (2 * (h : Int)) % m = 0
  · rw [if_pos q]; exact sumN_congr m (fun v _ => if_pos q)
  · rw [if_neg q, sumN_congr (g := fun _ => 0) m (fun v _ => if_neg q), sumN_zero]
