/-! FibredSpacesModel: maps -/
theorem mod_pick {m : Nat} (hm : 0 < m) {k q z : Int} (hk : 0 ≤ k ∧ k < m) (hz : 0 ≤ z ∧ z < m) : (k + q) % m = z ↔ (z - q) % m = k := by
  have e1 : z % m = z := Int.emod_eq_of_lt hz.1 hz.2
  have e2 : k % m = k := Int.emod_eq_of_lt hk.1 hk.2
  constructor
  · intro h
    rw [← e2]
    apply Int.emod_eq_emod_iff_emod_sub_eq_zero.mpr
    have h2 : (k + q) % m = z % m := by rw [h, e1]
    have h3 := Int.dvd_of_emod_eq_zero (Int.emod_eq_emod_iff_emod_sub_eq_zero.mp h2)
    apply Int.emod_eq_zero_of_dvd
    rw [show z - q - k = -(k + q - z) by omega]
    exact Int.dvd_neg.mpr h3
  · intro h
    rw [← e1]
    apply Int.emod_eq_emod_iff_emod_sub_eq_zero.mpr
    have h2 : (z - q) % m = k % m := by rw [h, e2]
    have h3 := Int.dvd_of_emod_eq_zero (Int.emod_eq_emod_iff_emod_sub_eq_zero.mp h2)
    apply Int.emod_eq_zero_of_dvd
    rw [show k + q - z = -(z - q - k) by omega]
    exact Int.dvd_neg.mpr h3
theorem sum_pick {m : Nat} (hm : 0 < m) {w : Int → Int} (hw : per m w) {q z : Int} (hz : 0 ≤ z ∧ z < m) : sumN m (fun k => if (k + q) % m = z then w k else 0) = w (z - q) := by
  have h0 := Int.emod_nonneg (z - q) (show (m : Int) ≠ 0 by omega)
  have h1 := Int.emod_lt_of_pos (z - q) (show 0 < (m : Int) by omega)
  obtain ⟨j, hj⟩ : ∃ j : Nat, (z - q) % m = j := ⟨((z - q) % m).toNat, by omega⟩
  rw [sumN_congr (g := fun k => if (j : Int) = k then w k else 0) m (fun k hk => by
    have := mod_pick hm (k := k) (q := q) (z := z) (by omega) hz
    rw [hj] at this
    by_cases h : (j : Int) = k
    · rw [if_pos h, if_pos (this.mpr h)]
    · rw [if_neg h, if_neg (fun h2 => h (this.mp h2))]), sumN_delta, if_pos (by omega), ← hw.mod (z - q), hj]
theorem gfP_per {m : Nat} {a b h : Int} {w : Int → Int} (hw : per m w) : per m (gfP m a b h w) := fun x => by
  unfold gfP
  exact sumN_congr m (fun q _ => by rw [show x + m - q = x - q + m by omega, hw])
def gvP (m : Nat) (w : Int → Int) (z : Int) : Int := sumN m (fun v => w (z - 2 * v))
theorem gvP_per {m : Nat} {w : Int → Int} (hw : per m w) : per m (gvP m w) := fun x => by
  unfold gvP
  exact sumN_congr m (fun q _ => by rw [show x + m - 2 * (q : Int) = x - 2 * q + m by omega, hw])
def gvN (m : Nat) : Nat → (Int → Int) → (Int → Int)
  | 0, w => w
  | n + 1, w => gvN m n (gvP m w)
theorem sumN_const (c : Int) : ∀ n : Nat, sumN n (fun _ => c) = n * c
  | 0 => by simp [sumN]
  | n + 1 => by simp only [sumN, sumN_const c n, Int.natCast_add, Int.add_mul]; simp
theorem gvP_two {m : Nat} {w : Int → Int} (hw : per m w) (z : Int) : gvP m (gvP m w) z = m * gvP m w z := by
  have hp : per m (fun u => w (z - 2 * u)) := fun x => by
    show w (z - 2 * (x + m)) = w (z - 2 * x)
    have := hw.int (-2) (z - 2 * x)
    rw [← this]; congr 1; omega
  have e : ∀ v : Int, gvP m w (z - 2 * v) = gvP m w z := fun v => by
    have := hp.shift v
    unfold gvP
    rw [← this]
    exact sumN_congr m (fun u _ => by congr 1; omega)
  conv => lhs; unfold gvP
  rw [sumN_congr (g := fun _ => gvP m w z) m (fun v _ => e v), sumN_const]
theorem gvP_scale {m : Nat} {w : Int → Int} (c : Int) (z : Int) : gvP m (fun x => c * w x) z = c * gvP m w z := by
  unfold gvP
  exact sumN_mul c (fun v => w (z - 2 * v)) m
theorem gvN_congr {m : Nat} : ∀ (n : Nat) {w w' : Int → Int}, (∀ z, w z = w' z) → ∀ z, gvN m n w z = gvN m n w' z
  | 0, _, _, h, z => h z
  | n + 1, _, _, h, z => gvN_congr n (fun z => by unfold gvP; exact sumN_congr m (fun v _ => h _)) z
theorem gvN_eq {m : Nat} : ∀ (n : Nat) {w : Int → Int} (c : Int), per m w → ∀ z, gvN m n (fun x => c * gvP m w x) z = c * (m : Int) ^ n * gvP m w z
  | 0, w, c, hw, z => by simp [gvN]
  | n + 1, w, c, hw, z => by
    show gvN m n (gvP m (fun x => c * gvP m w x)) z = _
    rw [gvN_congr n (w' := fun x => (c * m) * gvP m w x) (fun x => by rw [gvP_scale, gvP_two hw, Int.mul_assoc]) z, gvN_eq n (c * m) hw z, Int.pow_succ]
    grind
theorem gvN_succ {m n : Nat} {w : Int → Int} (hw : per m w) (z : Int) : gvN m (n + 1) w z = (m : Int) ^ n * gvP m w z := by
  have := gvN_eq n (w := w) 1 hw z
  rw [Int.one_mul] at this
  rw [← this]
  exact gvN_congr n (fun x => by rw [Int.one_mul]) z
section MMAPS
variable {G : GT} {μ : Mem} {M : HV} {σ : St}
def AccT (μ : Mem) (m : Nat) (B : Int → Int) (μ' : Mem) : Prop := (∀ z : Int, 0 ≤ z → z < m → μ' 215 z = B z) ∧ (∀ z : Int, (m : Int) ≤ z → μ' 215 z = μ 215 z) ∧ ∀ q : Nat, q ≠ 215 → μ' q = μ q
/-- the ways are those of w -/
def Wys (μ : Mem) (m : Nat) (w : Int → Int) : Prop := ∀ k : Int, 0 ≤ k → k < m → μ 214 k = w k
theorem AccT.put {m : Nat} {B B' : Int → Int} {μ' : Mem} {j x : Int} (h : AccT μ m B μ') (hj : 0 ≤ j ∧ j < m) (hB : ∀ z : Int, 0 ≤ z → z < m → B' z = if z = j then x else B z) : AccT μ m B' (up μ' 215 j x) := by
  obtain ⟨a1, a2, a3⟩ := h
  refine ⟨fun z z0 z1 => ?_, fun z hz => by rw [up_r, if_neg (by omega)]; exact a2 z hz, fun q hq => by rw [up_ne q hq]; exact a3 q hq⟩
  rw [up_r, hB z z0 z1]
  split
  · rfl
  · exact a1 z z0 z1
theorem AccT.take {m : Nat} {B : Int → Int} {μ0 μ' μ2 : Mem} (hz : ThZ μ0 μ) (h : AccT μ m B μ') (ht : TakT μ' m μ2) : ThZ μ0 μ2 ∧ Wys μ2 m B := by
  obtain ⟨a1, a2, a3⟩ := h
  obtain ⟨b1, b2, b3⟩ := ht
  refine ⟨⟨fun j j0 j1 => ?_, fun q q1 q2 => by rw [b3 q q1 q2, a3 q q2, hz.2 q q1 q2]⟩, fun k k0 k1 => by rw [(b1 k k0 k1).1]; exact a1 k k0 k1⟩
  by_cases e : j < m
  · exact (b1 j j0 e).2
  · rw [b2 j (by omega), a2 j (by omega)]; exact hz.1 j j0 j1
theorem gf_in {i f h q : Int} {m : Nat} {w B : Int → Int} {Q : QT} (hm : 2 ≤ m ∧ m ≤ 12) (hw : per m w) (hW : Wys μ m w) (hq : 0 ≤ q ∧ q < m)
    (hk : ∀ μ2 : Mem, AccT μ m (fun z => B z + w (z - q)) μ2 → E G mX11_giveFibre (Zq G mX11_giveFibre Q) 0 0 73 [.ref 203, vi i, vi f, vi h, vi (m : Int), vi q, vi (m : Int)] [] (Hp μ2)) : ∀ (t k : Nat) (μ' : Mem), k + t = m → AccT μ m (fun z => B z + sumN k (fun k => if (k + q) % m = z then w k else 0)) μ' →
    E G mX11_giveFibre (Zq G mX11_giveFibre Q) 0 0 37 [.ref 203, vi i, vi f, vi h, vi (m : Int), vi q, vi (k : Int)] [] (Hp μ')
  | 0, k, μ', e1, h1 => by
    have : k = m := by omega
    subst this
    have hp : AccT μ k (fun z => B z + w (z - q)) μ' := ⟨fun z z0 z1 => by rw [h1.1 z z0 z1]; dsimp only; rw [sum_pick (by omega) hw ⟨z0, z1⟩], h1.2.1, h1.2.2⟩
    refine E_iload dX11_giveFibre_37 rfl ?_
    refine E_iload dX11_giveFibre_39 rfl ?_
    refine E_icmp_ge 73 dX11_giveFibre_41 (fun h41 => ?_) (fun h41 => ?_)
    · -- 73
      exact hk μ' hp
    · -- 44
      exfalso; omega
  | t + 1, k, μ', e1, h1 => by
    have ih := gf_in hm hw hW hq hk t (k + 1)
    rw [show ((k + 1 : Nat) : Int) = (k : Int) + 1 by omega] at ih
    have em : ((k : Int) + q).tmod (m : Int) = ((k : Int) + q) % m := Int.tmod_eq_emod_of_nonneg (by omega)
    have r0 := Int.emod_nonneg ((k : Int) + q) (show (m : Int) ≠ 0 by omega)
    have r1 := Int.emod_lt_of_pos ((k : Int) + q) (show 0 < (m : Int) by omega)
    have hwk : μ' 214 (k : Int) = w k := by rw [h1.2.2 214 (by decide)]; exact hW k (by omega) (by omega)
    refine E_iload dX11_giveFibre_37 rfl ?_
    refine E_iload dX11_giveFibre_39 rfl ?_
    refine E_icmp_ge 73 dX11_giveFibre_41 (fun h41 => ?_) (fun h41 => ?_)
    · -- 73
      exfalso; omega
    · -- 44
      refine E_aload_n dX11_giveFibre_44 rfl ?_
      refine GX11_45 sk_203 dX11_giveFibre_45 ?_
      refine E_iload dX11_giveFibre_48 rfl ?_
      refine E_iload dX11_giveFibre_50 rfl ?_
      refine E_iadd dX11_giveFibre_52 ?_
      refine E_iload dX11_giveFibre_53 rfl ?_
      refine E_irem dX11_giveFibre_55 ?_
      rw [em]
      refine E_dup2 dX11_giveFibre_56 ?_
      refine H_lald sk_215 dX11_giveFibre_57 ?_
      refine E_aload_n dX11_giveFibre_58 rfl ?_
      refine GX11_42 sk_203 dX11_giveFibre_59 ?_
      refine E_iload dX11_giveFibre_62 rfl ?_
      refine H_lald sk_214 dX11_giveFibre_64 ?_
      rw [hwk]
      refine E_ladd dX11_giveFibre_65 ?_
      refine H_last sk_215 dX11_giveFibre_66 ?_
      refine E_iinc dX11_giveFibre_67 rfl ?_
      refine E_goto 37 dX11_giveFibre_70 ?_
      refine ih _ (by omega) (h1.put ⟨r0, r1⟩ (fun z z0 z1 => ?_))
      have hb := h1.1 _ r0 r1
      dsimp only at hb ⊢
      rw [sumN]
      by_cases e : z = ((k : Int) + q) % m
      · rw [if_pos e, if_pos e.symm, hb, e]; omega
      · rw [if_neg e, if_neg (fun h => e h.symm)]; omega
theorem gf_out {i h : Int} {n m : Nat} {s : Sp} {x : Fib} {w : Int → Int} {μ0 : Mem} (hi : isS i) (hs : RepN μ 204 (16 * i) s) (hok : spOk s) (hn : n < 6) (hx : s.2.2.2[n]? = some x) (hm : 2 ≤ m ∧ m ≤ 12) (hw : per m w) (hW : Wys μ m w) (hh : 0 ≤ h ∧ h < m) (hz : ThZ μ0 μ) : ∀ (t k : Nat) (μ' : Mem) (w6 : Value), k + t = m → AccT μ m (fun z => sumN k (fun q => if (x.1 * q + x.2 * h) % m = 0 then w (z - q) else 0)) μ' →
    E G mX11_giveFibre (Zq G mX11_giveFibre (V0 (fun μ2 => ThZ μ0 μ2 ∧ Wys μ2 m (gfP m x.1 x.2 h w)))) 0 0 3 [.ref 203, vi i, vi (n : Int), vi h, vi (m : Int), vi (k : Int), w6] [] (Hp μ')
  | 0, k, μ', w6, e1, h1 => by
    have : k = m := by omega
    subst this
    refine E_iload dX11_giveFibre_3 rfl ?_
    refine E_iload dX11_giveFibre_5 rfl ?_
    refine E_icmp_ge 79 dX11_giveFibre_7 (fun h7 => ?_) (fun h7 => ?_)
    · -- 79
      refine E_aload_n dX11_giveFibre_79 rfl ?_
      refine E_iload dX11_giveFibre_80 rfl ?_
      refine E_callVV dX11_giveFibre_82 lkX11_261 (Hp_get sk_203) (m_takeThen (m := k) (by omega)) ?_
      rintro μ2 g2
      have g3 := AccT.take hz h1 g2
      refine E_vret dX11_giveFibre_85 ?_
      exact ⟨rfl, _, rfl, g3.1, g3.2⟩
    · -- 10
      exfalso; omega
  | t + 1, k, μ', w6, e1, h1 => by
    have ih := gf_out hi hs hok hn hx hm hw hW hh hz t (k + 1)
    rw [show ((k + 1 : Nat) : Int) = (k : Int) + 1 by omega] at ih
    obtain ⟨x1, x2, x3, x4, -⟩ := hok.2.2.2.2.2.2 x (List.mem_of_getElem? hx)
    have hs' := hs.kept (h1.2.2 204 (by decide))
    have b1 := Int.mul_nonneg (show 0 ≤ x.1 by omega) (show 0 ≤ (k : Int) by omega)
    have b2 := Int.mul_nonneg (show 0 ≤ x.2 by omega) hh.1
    have b3 : x.1 * (k : Int) ≤ 30 * 12 := Int.mul_le_mul x2 (by omega) (by omega) (by decide)
    have b4 : x.2 * h ≤ 30 * 12 := Int.mul_le_mul (by omega) (by omega) (by omega) (by decide)
    have em : (x.1 * (k : Int) + x.2 * h).tmod (m : Int) = (x.1 * (k : Int) + x.2 * h) % m := Int.tmod_eq_emod_of_nonneg (by omega)
    have r0 := Int.emod_nonneg (x.1 * (k : Int) + x.2 * h) (show (m : Int) ≠ 0 by omega)
    have r1 := Int.emod_lt_of_pos (x.1 * (k : Int) + x.2 * h) (show 0 < (m : Int) by omega)
    by_cases q : (x.1 * (k : Int) + x.2 * h) % m = 0
    · skip
      refine E_iload dX11_giveFibre_3 rfl ?_
      refine E_iload dX11_giveFibre_5 rfl ?_
      refine E_icmp_ge 79 dX11_giveFibre_7 (fun h7 => ?_) (fun h7 => ?_)
      · -- 79
        exfalso; omega
      · -- 10
        refine E_aload_n dX11_giveFibre_10 rfl ?_
        refine E_iload_n dX11_giveFibre_11 rfl ?_
        refine E_iload_n dX11_giveFibre_12 rfl ?_
        refine E_callVR dX11_giveFibre_13 lkX11_90 (Hp_get sk_203) (m_a hi hs' hn hx) ?_
        refine E_iload dX11_giveFibre_16 rfl ?_
        refine E_imul dX11_giveFibre_18 ?_
        refine E_aload_n dX11_giveFibre_19 rfl ?_
        refine E_iload_n dX11_giveFibre_20 rfl ?_
        refine E_iload_n dX11_giveFibre_21 rfl ?_
        refine E_callVR dX11_giveFibre_22 lkX11_93 (Hp_get sk_203) (m_b hi hs' hn hx) ?_
        refine E_iload_n dX11_giveFibre_25 rfl ?_
        refine E_imul dX11_giveFibre_26 ?_
        refine E_iadd dX11_giveFibre_27 ?_
        refine E_iload dX11_giveFibre_28 rfl ?_
        refine E_irem dX11_giveFibre_30 ?_
        rw [em]
        refine E_if_ne 73 dX11_giveFibre_31 (fun h31 => ?_) (fun h31 => ?_)
        · -- 73
          exfalso; omega
        · -- 34
          refine E_iconst dX11_giveFibre_34 ?_
          refine E_istore dX11_giveFibre_35 ?_
          refine gf_in (μ := μ) (B := fun z => sumN k (fun q => if (x.1 * q + x.2 * h) % m = 0 then w (z - q) else 0)) hm hw hW (by omega) (fun μ2 g => ?_) m 0 μ' (by omega) ⟨fun z z0 z1 => by rw [h1.1 z z0 z1]; simp [sumN], h1.2.1, h1.2.2⟩
          refine E_iinc dX11_giveFibre_73 rfl (E_goto 3 dX11_giveFibre_76 (ih μ2 _ (by omega) ⟨fun z z0 z1 => ?_, g.2.1, g.2.2⟩))
          rw [g.1 z z0 z1]
          dsimp only
          rw [sumN, if_pos q]
    · skip
      refine E_iload dX11_giveFibre_3 rfl ?_
      refine E_iload dX11_giveFibre_5 rfl ?_
      refine E_icmp_ge 79 dX11_giveFibre_7 (fun h7 => ?_) (fun h7 => ?_)
      · -- 79
        exfalso; omega
      · -- 10
        refine E_aload_n dX11_giveFibre_10 rfl ?_
        refine E_iload_n dX11_giveFibre_11 rfl ?_
        refine E_iload_n dX11_giveFibre_12 rfl ?_
        refine E_callVR dX11_giveFibre_13 lkX11_90 (Hp_get sk_203) (m_a hi hs' hn hx) ?_
        refine E_iload dX11_giveFibre_16 rfl ?_
        refine E_imul dX11_giveFibre_18 ?_
        refine E_aload_n dX11_giveFibre_19 rfl ?_
        refine E_iload_n dX11_giveFibre_20 rfl ?_
        refine E_iload_n dX11_giveFibre_21 rfl ?_
        refine E_callVR dX11_giveFibre_22 lkX11_93 (Hp_get sk_203) (m_b hi hs' hn hx) ?_
        refine E_iload_n dX11_giveFibre_25 rfl ?_
        refine E_imul dX11_giveFibre_26 ?_
        refine E_iadd dX11_giveFibre_27 ?_
        refine E_iload dX11_giveFibre_28 rfl ?_
        refine E_irem dX11_giveFibre_30 ?_
        rw [em]
        refine E_if_ne 73 dX11_giveFibre_31 (fun h31 => ?_) (fun h31 => ?_)
        · -- 73
          refine E_iinc dX11_giveFibre_73 rfl ?_
          refine E_goto 3 dX11_giveFibre_76 ?_
          refine ih μ' _ (by omega) ⟨fun z z0 z1 => ?_, h1.2.1, h1.2.2⟩
          rw [h1.1 z z0 z1]
          dsimp only
          rw [sumN, if_neg q, Int.add_zero]
        · -- 34
          exfalso; omega
theorem m_giveFibre {i h : Int} {n m : Nat} {s : Sp} {x : Fib} {w : Int → Int} {μ0 : Mem} (hi : isS i) (hs : RepN μ 204 (16 * i) s) (hok : spOk s) (hn : n < 6) (hx : s.2.2.2[n]? = some x) (hm : 2 ≤ m ∧ m ≤ 12) (hw : per m w) (hW : Wys μ m w) (hh : 0 ≤ h ∧ h < m) (hz : ThZ μ0 μ) : Ctr G mX11_giveFibre [.ref 203, vi i, vi (n : Int), vi h, vi (m : Int)] (Hp μ) (V0 (fun μ2 => ThZ μ0 μ2 ∧ Wys μ2 m (gfP m x.1 x.2 h w))) := by
  refine Ctr.of ?_
  refine E_iconst dX11_giveFibre_0 ?_
  refine E_istore dX11_giveFibre_1 ?_
  exact gf_out hi hs hok hn hx hm hw hW hh hz m 0 μ _ (by omega) ⟨fun z z0 z1 => by rw [hz.1 z z0 (by omega)]; rfl, fun _ _ => rfl, fun _ _ => rfl⟩
theorem gt_in {v : Int} {m : Nat} {w B : Int → Int} {Q : QT} (hm : 2 ≤ m ∧ m ≤ 12) (hw : per m w) (hW : Wys μ m w) (hv : 0 ≤ v ∧ v < m)
    (hk : ∀ μ2 : Mem, AccT μ m (fun z => B z + w (z - 2 * v)) μ2 → E G mX11_giveTwice (Zq G mX11_giveTwice Q) 0 0 41 [.ref 203, vi (m : Int), vi v, vi (m : Int)] [] (Hp μ2)) : ∀ (t k : Nat) (μ' : Mem), k + t = m → AccT μ m (fun z => B z + sumN k (fun k => if (k + 2 * v) % m = z then w k else 0)) μ' →
    E G mX11_giveTwice (Zq G mX11_giveTwice Q) 0 0 9 [.ref 203, vi (m : Int), vi v, vi (k : Int)] [] (Hp μ')
  | 0, k, μ', e1, h1 => by
    have : k = m := by omega
    subst this
    have hp : AccT μ k (fun z => B z + w (z - 2 * v)) μ' := ⟨fun z z0 z1 => by rw [h1.1 z z0 z1]; dsimp only; rw [sum_pick (by omega) hw ⟨z0, z1⟩], h1.2.1, h1.2.2⟩
    refine E_iload_n dX11_giveTwice_9 rfl ?_
    refine E_iload_n dX11_giveTwice_10 rfl ?_
    refine E_icmp_ge 41 dX11_giveTwice_11 (fun h11 => ?_) (fun h11 => ?_)
    · -- 41
      exact hk μ' hp
    · -- 14
      exfalso; omega
  | t + 1, k, μ', e1, h1 => by
    have ih := gt_in hm hw hW hv hk t (k + 1)
    rw [show ((k + 1 : Nat) : Int) = (k : Int) + 1 by omega] at ih
    have em : ((k : Int) + 2 * v).tmod (m : Int) = ((k : Int) + 2 * v) % m := Int.tmod_eq_emod_of_nonneg (by omega)
    have r0 := Int.emod_nonneg ((k : Int) + 2 * v) (show (m : Int) ≠ 0 by omega)
    have r1 := Int.emod_lt_of_pos ((k : Int) + 2 * v) (show 0 < (m : Int) by omega)
    have hwk : μ' 214 (k : Int) = w k := by rw [h1.2.2 214 (by decide)]; exact hW k (by omega) (by omega)
    refine E_iload_n dX11_giveTwice_9 rfl ?_
    refine E_iload_n dX11_giveTwice_10 rfl ?_
    refine E_icmp_ge 41 dX11_giveTwice_11 (fun h11 => ?_) (fun h11 => ?_)
    · -- 41
      exfalso; omega
    · -- 14
      refine E_aload_n dX11_giveTwice_14 rfl ?_
      refine GX11_45 sk_203 dX11_giveTwice_15 ?_
      refine E_iload_n dX11_giveTwice_18 rfl ?_
      refine E_iconst dX11_giveTwice_19 ?_
      refine E_iload_n dX11_giveTwice_20 rfl ?_
      refine E_imul dX11_giveTwice_21 ?_
      refine E_iadd dX11_giveTwice_22 ?_
      refine E_iload_n dX11_giveTwice_23 rfl ?_
      refine E_irem dX11_giveTwice_24 ?_
      rw [em]
      refine E_dup2 dX11_giveTwice_25 ?_
      refine H_lald sk_215 dX11_giveTwice_26 ?_
      refine E_aload_n dX11_giveTwice_27 rfl ?_
      refine GX11_42 sk_203 dX11_giveTwice_28 ?_
      refine E_iload_n dX11_giveTwice_31 rfl ?_
      refine H_lald sk_214 dX11_giveTwice_32 ?_
      rw [hwk]
      refine E_ladd dX11_giveTwice_33 ?_
      refine H_last sk_215 dX11_giveTwice_34 ?_
      refine E_iinc dX11_giveTwice_35 rfl ?_
      refine E_goto 9 dX11_giveTwice_38 ?_
      refine ih _ (by omega) (h1.put ⟨r0, r1⟩ (fun z z0 z1 => ?_))
      have hb := h1.1 _ r0 r1
      dsimp only at hb ⊢
      rw [sumN]
      by_cases e : z = ((k : Int) + 2 * v) % m
      · rw [if_pos e, if_pos e.symm, hb, e]; omega
      · rw [if_neg e, if_neg (fun h => e h.symm)]; omega
theorem gt_out {m : Nat} {w : Int → Int} {μ0 : Mem} (hm : 2 ≤ m ∧ m ≤ 12) (hw : per m w) (hW : Wys μ m w) (hz : ThZ μ0 μ) : ∀ (t k : Nat) (μ' : Mem) (w3 : Value), k + t = m → AccT μ m (fun z => sumN k (fun v => w (z - 2 * v))) μ' →
    E G mX11_giveTwice (Zq G mX11_giveTwice (V0 (fun μ2 => ThZ μ0 μ2 ∧ Wys μ2 m (gvP m w)))) 0 0 2 [.ref 203, vi (m : Int), vi (k : Int), w3] [] (Hp μ')
  | 0, k, μ', w3, e1, h1 => by
    have : k = m := by omega
    subst this
    refine E_iload_n dX11_giveTwice_2 rfl ?_
    refine E_iload_n dX11_giveTwice_3 rfl ?_
    refine E_icmp_ge 47 dX11_giveTwice_4 (fun h4 => ?_) (fun h4 => ?_)
    · -- 47
      refine E_aload_n dX11_giveTwice_47 rfl ?_
      refine E_iload_n dX11_giveTwice_48 rfl ?_
      refine E_callVV dX11_giveTwice_49 lkX11_261 (Hp_get sk_203) (m_takeThen (m := k) (by omega)) ?_
      rintro μ2 g2
      have g3 := AccT.take hz h1 g2
      refine E_vret dX11_giveTwice_52 ?_
      exact ⟨rfl, _, rfl, g3.1, g3.2⟩
    · -- 7
      exfalso; omega
  | t + 1, k, μ', w3, e1, h1 => by
    have ih := gt_out hm hw hW hz t (k + 1)
    rw [show ((k + 1 : Nat) : Int) = (k : Int) + 1 by omega] at ih
    refine E_iload_n dX11_giveTwice_2 rfl ?_
    refine E_iload_n dX11_giveTwice_3 rfl ?_
    refine E_icmp_ge 47 dX11_giveTwice_4 (fun h4 => ?_) (fun h4 => ?_)
    · -- 47
      exfalso; omega
    · -- 7
      refine E_iconst dX11_giveTwice_7 ?_
      refine E_istore_n dX11_giveTwice_8 ?_
      refine gt_in (μ := μ) (B := fun z => sumN k (fun v => w (z - 2 * v))) hm hw hW (by omega) (fun μ2 g => ?_) m 0 μ' (by omega) ⟨fun z z0 z1 => by rw [h1.1 z z0 z1]; simp [sumN], h1.2.1, h1.2.2⟩
      refine E_iinc dX11_giveTwice_41 rfl (E_goto 2 dX11_giveTwice_44 (ih μ2 _ (by omega) ⟨fun z z0 z1 => ?_, g.2.1, g.2.2⟩))
      rw [g.1 z z0 z1]
      dsimp only
      rw [sumN]
theorem m_giveTwice {m : Nat} {w : Int → Int} {μ0 : Mem} (hm : 2 ≤ m ∧ m ≤ 12) (hw : per m w) (hW : Wys μ m w) (hz : ThZ μ0 μ) : Ctr G mX11_giveTwice [.ref 203, vi (m : Int)] (Hp μ) (V0 (fun μ2 => ThZ μ0 μ2 ∧ Wys μ2 m (gvP m w))) := by
  refine Ctr.of ?_
  refine E_iconst dX11_giveTwice_0 ?_
  refine E_istore_n dX11_giveTwice_1 ?_
  exact gt_out hm hw hW hz m 0 μ _ (by omega) ⟨fun z z0 z1 => by rw [hz.1 z z0 (by omega)]; rfl, fun _ _ => rfl, fun _ _ => rfl⟩
end MMAPS
