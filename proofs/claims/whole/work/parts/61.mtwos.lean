/-! FibredSpacesModel: twos -/
def twR (v : Nat) : Nat → Nat → Nat
  | n, 0 => n
  | n, d + 1 => if v / 2 ^ n % 2 = 1 then n else twR v (n + 1) d
def tw (v : Nat) : Nat := twR v 0 8
theorem tws_ok : ∀ v : Fin 256, ∀ n : Fin 8, Int32.ofInt (v.val : Int) >>> (Int32.ofInt (n.val : Int) &&& 31) = Int32.ofInt ((v.val / 2 ^ n.val : Nat) : Int) := by decide +kernel
theorem twa_ok : ∀ v : Fin 256, Int32.ofInt (v.val : Int) &&& Int32.ofInt 1 = Int32.ofInt ((v.val % 2 : Nat) : Int) := by decide +kernel
theorem tw_ok : ∀ v : Fin 256, tw v.val ≤ 8 ∧ v.val % 2 ^ tw v.val = 0 ∧ (tw v.val < 8 → v.val / 2 ^ tw v.val % 2 = 1) ∧ (tw v.val = 8 → v.val = 0) := by decide +kernel
theorem tw_ge : ∀ v : Fin 256, ∀ u : Fin 9, v.val % 2 ^ u.val = 0 → u.val ≤ tw v.val := by decide +kernel
def ivR (o : Nat) : Nat → Nat → Nat
  | v, 0 => v
  | v, d + 1 => if v * o % 256 = 1 then v else ivR o (v + 2) d
theorem iv_ok : ∀ o : Fin 256, o.val % 2 = 1 → (ivR o.val 1 128 * o.val) % 256 = 1 ∧ ivR o.val 1 128 < 256 := by decide +kernel
section MTWOS
variable {G : GT} {μ : Mem} {M : HV} {σ : St}
theorem to_loop {v : Nat} (hv : v < 256) : ∀ (d n : Nat), n + d = 8 → E G mX11_twosOf (Zq G mX11_twosOf (R1 (vi (twR v n d : Nat)) M)) 0 0 2 [vi (v : Int), vi (n : Int)] [] M
  | 0, n, e => by
    have : n = 8 := by omega
    subst this
    refine E_iload_n dX11_twosOf_2 rfl ?_
    refine E_bipush dX11_twosOf_3 ?_
    refine E_icmp_ge 22 dX11_twosOf_5 (fun h5 => ?_) (fun h5 => ?_)
    · -- 22
      refine E_iload_n dX11_twosOf_22 rfl ?_
      refine E_iret dX11_twosOf_23 ?_
      exact ⟨rfl, rfl⟩
    · -- 8
      exfalso; omega
  | d + 1, n, e => by
    have e1 := tws_ok ⟨v, hv⟩ ⟨n, by omega⟩
    have b1 : v / 2 ^ n < 256 := Nat.lt_of_le_of_lt (Nat.div_le_self _ _) hv
    have e2 := twa_ok ⟨_, b1⟩
    have ih := to_loop hv d (n + 1) (by omega)
    rw [show ((n + 1 : Nat) : Int) = (n : Int) + 1 by omega] at ih
    by_cases q : v / 2 ^ n % 2 = 1
    · rw [show twR v n (d + 1) = n from if_pos q]
      refine E_iload_n dX11_twosOf_2 rfl ?_
      refine E_bipush dX11_twosOf_3 ?_
      refine E_icmp_ge 22 dX11_twosOf_5 (fun h5 => ?_) (fun h5 => ?_)
      · -- 22
        refine E_iload_n dX11_twosOf_22 rfl ?_
        refine E_iret dX11_twosOf_23 ?_
        first | (exfalso; omega) | exact ⟨rfl, rfl⟩
      · -- 8
        refine E_iload_n dX11_twosOf_8 rfl ?_
        refine E_iload_n dX11_twosOf_9 rfl ?_
        refine E_ishr ((v / 2 ^ n : Nat)) dX11_twosOf_10 (e1) ?_
        refine E_iconst dX11_twosOf_11 ?_
        refine E_iand ((v / 2 ^ n % 2 : Nat)) dX11_twosOf_12 (e2) ?_
        refine E_if_ne 22 dX11_twosOf_13 (fun h13 => ?_) (fun h13 => ?_)
        · -- 22
          refine E_iload_n dX11_twosOf_22 rfl ?_
          refine E_iret dX11_twosOf_23 ?_
          first | (exfalso; omega) | exact ⟨rfl, rfl⟩
        · -- 16
          exfalso; omega
    · rw [show twR v n (d + 1) = twR v (n + 1) d from if_neg q]
      refine E_iload_n dX11_twosOf_2 rfl ?_
      refine E_bipush dX11_twosOf_3 ?_
      refine E_icmp_ge 22 dX11_twosOf_5 (fun h5 => ?_) (fun h5 => ?_)
      · -- 22
        exfalso; omega
      · -- 8
        refine E_iload_n dX11_twosOf_8 rfl ?_
        refine E_iload_n dX11_twosOf_9 rfl ?_
        refine E_ishr ((v / 2 ^ n : Nat)) dX11_twosOf_10 (e1) ?_
        refine E_iconst dX11_twosOf_11 ?_
        refine E_iand ((v / 2 ^ n % 2 : Nat)) dX11_twosOf_12 (e2) ?_
        refine E_if_ne 22 dX11_twosOf_13 (fun h13 => ?_) (fun h13 => ?_)
        · -- 22
          exfalso; omega
        · -- 16
          refine E_iinc dX11_twosOf_16 rfl ?_
          refine E_goto 2 dX11_twosOf_19 ?_
          exact ih
theorem m_twosOf {x : Int} (hx : 0 ≤ x ∧ x < 256) : Ctr G mX11_twosOf [vi x] M (R1 (vi (tw x.toNat : Nat)) M) := by
  refine Ctr.of ?_
  obtain ⟨v, rfl⟩ : ∃ v : Nat, x = v := ⟨x.toNat, by omega⟩
  rw [show ((v : Nat) : Int).toNat = v by omega]
  refine E_iconst dX11_twosOf_0 ?_
  refine E_istore_n dX11_twosOf_1 ?_
  exact to_loop (by omega) 8 0 (by omega)
theorem iv_loop {o : Nat} (ho : o < 256) : ∀ (d v : Nat), v + 2 * d < 2000 → (ivR o v d * o) % 256 = 1 → E G mX11_inverse (Zq G mX11_inverse (R1 (vi (ivR o v d : Nat)) M)) 0 0 2 [vi (o : Int), vi (v : Int)] [] M
  | 0, v, e, hi => by
    have hi2 : (v * o) % 256 = 1 := hi
    have b : ((v * o : Nat) : Int) = (v : Int) * o := Int.natCast_mul v o
    have b2 : v * o ≤ 2000 * 256 := Nat.mul_le_mul (by omega) (by omega)
    have b3 : ((v : Int) * o).tmod 256 = ((v * o % 256 : Nat) : Int) := by rw [← b, Int.tmod_eq_emod_of_nonneg (by omega)]; rfl
    refine E_iload_n dX11_inverse_2 rfl ?_
    refine E_iload_n dX11_inverse_3 rfl ?_
    refine E_imul dX11_inverse_4 ?_
    refine E_sipush dX11_inverse_5 ?_
    refine E_irem dX11_inverse_8 ?_
    rw [b3]
    refine E_iconst dX11_inverse_9 ?_
    refine E_icmp_eq 19 dX11_inverse_10 (fun h10 => ?_) (fun h10 => ?_)
    · -- 19
      refine E_iload_n dX11_inverse_19 rfl ?_
      refine E_iret dX11_inverse_20 ?_
      exact ⟨rfl, rfl⟩
    · -- 13
      exfalso; omega
  | d + 1, v, e, hi => by
    have b : ((v * o : Nat) : Int) = (v : Int) * o := Int.natCast_mul v o
    have b2 : v * o ≤ 2000 * 256 := Nat.mul_le_mul (by omega) (by omega)
    have b3 : ((v : Int) * o).tmod 256 = ((v * o % 256 : Nat) : Int) := by rw [← b, Int.tmod_eq_emod_of_nonneg (by omega)]; rfl
    by_cases q : v * o % 256 = 1
    · rw [show ivR o v (d + 1) = v from if_pos q]
      refine E_iload_n dX11_inverse_2 rfl ?_
      refine E_iload_n dX11_inverse_3 rfl ?_
      refine E_imul dX11_inverse_4 ?_
      refine E_sipush dX11_inverse_5 ?_
      refine E_irem dX11_inverse_8 ?_
      rw [b3]
      refine E_iconst dX11_inverse_9 ?_
      refine E_icmp_eq 19 dX11_inverse_10 (fun h10 => ?_) (fun h10 => ?_)
      · -- 19
        refine E_iload_n dX11_inverse_19 rfl ?_
        refine E_iret dX11_inverse_20 ?_
        exact ⟨rfl, rfl⟩
      · -- 13
        exfalso; omega
    · have hv : ivR o v (d + 1) = ivR o (v + 2) d := if_neg q
      rw [hv] at hi ⊢
      have ih := iv_loop ho d (v + 2) (by omega) hi
      rw [show ((v + 2 : Nat) : Int) = (v : Int) + 2 by omega] at ih
      refine E_iload_n dX11_inverse_2 rfl ?_
      refine E_iload_n dX11_inverse_3 rfl ?_
      refine E_imul dX11_inverse_4 ?_
      refine E_sipush dX11_inverse_5 ?_
      refine E_irem dX11_inverse_8 ?_
      rw [b3]
      refine E_iconst dX11_inverse_9 ?_
      refine E_icmp_eq 19 dX11_inverse_10 (fun h10 => ?_) (fun h10 => ?_)
      · -- 19
        exfalso; omega
      · -- 13
        refine E_iinc dX11_inverse_13 rfl ?_
        refine E_goto 2 dX11_inverse_16 ?_
        exact ih
theorem m_inverse {o : Nat} (ho : o < 256) (h2 : o % 2 = 1) : Ctr G mX11_inverse [vi (o : Int)] M (R1 (vi (ivR o 1 128 : Nat)) M) := by
  refine Ctr.of ?_
  refine E_iconst dX11_inverse_0 ?_
  refine E_istore_n dX11_inverse_1 ?_
  exact iv_loop ho 128 1 (by omega) (iv_ok ⟨o, ho⟩ h2).1
def gM (μ : Mem) (r c : Nat) : Int := μ 212 (8 * (r : Int) + (c : Int))
def GR (μ : Mem) : Prop := ∀ r c : Nat, r < 8 → c < 8 → 0 ≤ gM μ r c ∧ gM μ r c < 256
def twI (x : Int) : Nat := tw x.toNat
theorem twI_ok {x : Int} (h : 0 ≤ x ∧ x < 256) : twI x ≤ 8 ∧ ((2 ^ twI x : Nat) : Int) ∣ x ∧ (twI x < 8 → ∃ q : Nat, x = (q * 2 ^ twI x : Nat) ∧ q % 2 = 1 ∧ q < 256) ∧ (twI x = 8 → x = 0) := by
  obtain ⟨v, rfl⟩ : ∃ v : Nat, x = v := ⟨x.toNat, by omega⟩
  have hv : v < 256 := by omega
  obtain ⟨h1, h2, h3, h4⟩ := tw_ok ⟨v, hv⟩
  have e : twI (v : Int) = tw v := by unfold twI; rw [show ((v : Nat) : Int).toNat = v by omega]
  rw [e]
  refine ⟨h1, Int.natCast_dvd_natCast.mpr (Nat.dvd_of_mod_eq_zero h2), fun h => ⟨v / 2 ^ tw v, ?_, h3 h, Nat.lt_of_le_of_lt (Nat.div_le_self _ _) hv⟩, fun h => ?_⟩
  · congr 1
    exact (Nat.div_mul_cancel (Nat.dvd_of_mod_eq_zero h2)).symm
  · have := h4 h; simp only at this; omega
theorem twI_ge {x : Int} {u : Nat} (h : 0 ≤ x ∧ x < 256) (hu : u ≤ 8) (hd : ((2 ^ u : Nat) : Int) ∣ x) : u ≤ twI x := by
  obtain ⟨v, rfl⟩ : ∃ v : Nat, x = v := ⟨x.toNat, by omega⟩
  have := tw_ge ⟨v, by omega⟩ ⟨u, by omega⟩ (Nat.mod_eq_zero_of_dvd (Int.natCast_dvd_natCast.mp hd))
  unfold twI; rw [show ((v : Nat) : Int).toNat = v by omega]; exact this
/-- search for the number with the fewest twos -/
theorem cl_in {k s row : Nat} {Q : QT} (hs : s ≤ 8) (hG : GR μ) (hr : k ≤ row ∧ row < s) (hk : ∀ r0 c0 : Nat, k ≤ r0 → r0 < s → k ≤ c0 → c0 < s → (∀ r c : Nat, k ≤ r → r ≤ row → k ≤ c → c < s → twI (gM μ r0 c0) ≤ twI (gM μ r c)) → E G mX11_clears (Zq G mX11_clears Q) 0 0 70 [.ref 203, vi (k : Int), vi (s : Int), vi (8 * (r0 : Int) + (c0 : Int)), vi (row : Int), vi (s : Int), .retAddr 0, .retAddr 0, .retAddr 0, .retAddr 0, .retAddr 0] [] (Hp μ)) : ∀ (t c r0 c0 : Nat), c + t = s → k ≤ c → k ≤ r0 → r0 < s → k ≤ c0 → c0 < s → (∀ r c' : Nat, k ≤ r → r < row → k ≤ c' → c' < s → twI (gM μ r0 c0) ≤ twI (gM μ r c')) → (∀ c' : Nat, k ≤ c' → c' < c → twI (gM μ r0 c0) ≤ twI (gM μ row c')) →
    E G mX11_clears (Zq G mX11_clears Q) 0 0 17 [.ref 203, vi (k : Int), vi (s : Int), vi (8 * (r0 : Int) + (c0 : Int)), vi (row : Int), vi (c : Int), .retAddr 0, .retAddr 0, .retAddr 0, .retAddr 0, .retAddr 0] [] (Hp μ)
  | 0, c, r0, c0, e, b0, b1, b2, b3, b4, g1, g2 => by
    have : c = s := by omega
    subst this
    refine E_iload dX11_clears_17 rfl ?_
    refine E_iload_n dX11_clears_19 rfl ?_
    refine E_icmp_ge 70 dX11_clears_20 (fun h20 => ?_) (fun h20 => ?_)
    · -- 70
      refine hk r0 c0 b1 b2 b3 b4 (fun r c' h1 h2 h3 h4 => ?_)
      rcases Nat.lt_or_ge r row with h | h
      · exact g1 r c' h1 h h3 h4
      · obtain rfl : r = row := by omega
        exact g2 c' h3 h4
    · -- 23
      exfalso; omega
  | t + 1, c, r0, c0, e, b0, b1, b2, b3, b4, g1, g2 => by
    have ih := cl_in hs hG hr hk t (c + 1)
    rw [show ((c + 1 : Nat) : Int) = (c : Int) + 1 by omega] at ih
    have v1 := hG row c (by omega) (by omega)
    have v2 := hG r0 c0 (by omega) (by omega)
    have w1 := m_twosOf (G := G) (M := Hp μ) v1
    have w2 := m_twosOf (G := G) (M := Hp μ) v2
    have u1 := (twI_ok v1).1
    have u2 := (twI_ok v2).1
    have i1 : tw (gM μ row c).toNat = twI (gM μ row c) := rfl
    have i2 : tw (gM μ r0 c0).toNat = twI (gM μ r0 c0) := rfl
    rw [i1] at w1
    rw [i2] at w2
    have yes := fun (h : twI (gM μ row c) < twI (gM μ r0 c0)) => ih row c (by omega) (by omega) (by omega) (by omega) (by omega) (by omega) (fun r c' h1 h2 h3 h4 => by have := g1 r c' h1 h2 h3 h4; omega) (fun c' h1 h2 => by
      rcases Nat.lt_or_ge c' c with h3 | h3
      · have := g2 c' h1 h3; omega
      · obtain rfl : c' = c := by omega
        omega)
    have no := fun (h : ¬ twI (gM μ row c) < twI (gM μ r0 c0)) => ih r0 c0 (by omega) (by omega) b1 b2 b3 b4 g1 (fun c' h1 h2 => by
      rcases Nat.lt_or_ge c' c with h3 | h3
      · exact g2 c' h1 h3
      · obtain rfl : c' = c := by omega
        omega)
    refine E_iload dX11_clears_17 rfl ?_
    refine E_iload_n dX11_clears_19 rfl ?_
    refine E_icmp_ge 70 dX11_clears_20 (fun h20 => ?_) (fun h20 => ?_)
    · -- 70
      exfalso; omega
    · -- 23
      refine E_aload_n dX11_clears_23 rfl ?_
      refine GX11_36 sk_203 dX11_clears_24 ?_
      refine E_bipush dX11_clears_27 ?_
      refine E_iload dX11_clears_29 rfl ?_
      refine E_imul dX11_clears_31 ?_
      refine E_iload dX11_clears_32 rfl ?_
      refine E_iadd dX11_clears_34 ?_
      refine H_iald sk_212 dX11_clears_35 ?_
      refine E_callSR dX11_clears_36 lkX11_220 (w1) ?_
      refine E_aload_n dX11_clears_39 rfl ?_
      refine GX11_36 sk_203 dX11_clears_40 ?_
      refine E_iload_n dX11_clears_43 rfl ?_
      refine H_iald sk_212 dX11_clears_44 ?_
      refine E_callSR dX11_clears_45 lkX11_220 (w2) ?_
      refine E_icmp_ge 62 dX11_clears_48 (fun h48 => ?_) (fun h48 => ?_)
      · -- 62
        refine E_iload_n dX11_clears_62 rfl ?_
        refine E_istore_n dX11_clears_63 ?_
        refine E_iinc dX11_clears_64 rfl ?_
        refine E_goto 17 dX11_clears_67 ?_
        first | exact no (by omega) | exact yes (by omega)
      · -- 51
        refine E_bipush dX11_clears_51 ?_
        refine E_iload dX11_clears_53 rfl ?_
        refine E_imul dX11_clears_55 ?_
        refine E_iload dX11_clears_56 rfl ?_
        refine E_iadd dX11_clears_58 ?_
        refine E_goto 63 dX11_clears_59 ?_
        refine E_istore_n dX11_clears_63 ?_
        refine E_iinc dX11_clears_64 rfl ?_
        refine E_goto 17 dX11_clears_67 ?_
        first | exact no (by omega) | exact yes (by omega)
theorem cl_out {k s : Nat} {Q : QT} (hs : s ≤ 8) (hks : k < s) (hG : GR μ) (hk : ∀ (r0 c0 : Nat) (w4 w5 : Value), k ≤ r0 → r0 < s → k ≤ c0 → c0 < s → (∀ r c : Nat, k ≤ r → r < s → k ≤ c → c < s → twI (gM μ r0 c0) ≤ twI (gM μ r c)) → E G mX11_clears (Zq G mX11_clears Q) 0 0 76 [.ref 203, vi (k : Int), vi (s : Int), vi (8 * (r0 : Int) + (c0 : Int)), w4, w5, .retAddr 0, .retAddr 0, .retAddr 0, .retAddr 0, .retAddr 0] [] (Hp μ)) : ∀ (t row r0 c0 : Nat) (w5 : Value), row + t = s → k ≤ row → k ≤ r0 → r0 < s → k ≤ c0 → c0 < s → (∀ r c' : Nat, k ≤ r → r < row → k ≤ c' → c' < s → twI (gM μ r0 c0) ≤ twI (gM μ r c')) →
    E G mX11_clears (Zq G mX11_clears Q) 0 0 8 [.ref 203, vi (k : Int), vi (s : Int), vi (8 * (r0 : Int) + (c0 : Int)), vi (row : Int), w5, .retAddr 0, .retAddr 0, .retAddr 0, .retAddr 0, .retAddr 0] [] (Hp μ)
  | 0, row, r0, c0, w5, e, b0, b1, b2, b3, b4, g1 => by
    have : row = s := by omega
    subst this
    refine E_iload dX11_clears_8 rfl ?_
    refine E_iload_n dX11_clears_10 rfl ?_
    refine E_icmp_ge 76 dX11_clears_11 (fun h11 => ?_) (fun h11 => ?_)
    · -- 76
      exact hk r0 c0 _ _ b1 b2 b3 b4 g1
    · -- 14
      exfalso; omega
  | t + 1, row, r0, c0, w5, e, b0, b1, b2, b3, b4, g1 => by
    have ih := cl_out hs hks hG hk t (row + 1)
    rw [show ((row + 1 : Nat) : Int) = (row : Int) + 1 by omega] at ih
    refine E_iload dX11_clears_8 rfl ?_
    refine E_iload_n dX11_clears_10 rfl ?_
    refine E_icmp_ge 76 dX11_clears_11 (fun h11 => ?_) (fun h11 => ?_)
    · -- 76
      exfalso; omega
    · -- 14
      refine E_iload_n dX11_clears_14 rfl ?_
      refine E_istore dX11_clears_15 ?_
      refine cl_in (μ := μ) hs hG ⟨b0, by omega⟩ (fun r1 c1 h1 h2 h3 h4 h5 => ?_) (s - k) k r0 c0 (by omega) (Nat.le_refl _) b1 b2 b3 b4 g1 (fun c' h1 h2 => by omega)
      exact E_iinc dX11_clears_70 rfl (E_goto 8 dX11_clears_73 (ih r1 c1 _ (by omega) (by omega) h1 h2 h3 h4 (fun r c' a1 a2 a3 a4 => h5 r c' a1 (by omega) a3 a4)))
/-- rows a and k change places -/
theorem cl_rows {k s a b : Nat} {w3 : Value} {Q : QT} (hk8 : k < 8) (ha8 : a < 8) (hk : ∀ (μ2 : Mem) (w6 w7 : Value), (∀ r c : Nat, r < 8 → c < 8 → gM μ2 r c = gM μ (swp a k r) c) → (∀ q : Nat, q ≠ 212 → μ2 q = μ q) → E G mX11_clears (Zq G mX11_clears Q) 0 0 158 [.ref 203, vi (k : Int), vi (s : Int), w3, vi (a : Int), vi (b : Int), w6, w7, .retAddr 0, .retAddr 0, .retAddr 0] [] (Hp μ2)) : ∀ (t c : Nat) (μ' : Mem) (w7 : Value), c + t = 8 → (∀ r j : Nat, r < 8 → j < 8 → gM μ' r j = if j < c then gM μ (swp a k r) j else gM μ r j) → (∀ q : Nat, q ≠ 212 → μ' q = μ q) →
    E G mX11_clears (Zq G mX11_clears Q) 0 0 91 [.ref 203, vi (k : Int), vi (s : Int), w3, vi (a : Int), vi (b : Int), vi (c : Int), w7, .retAddr 0, .retAddr 0, .retAddr 0] [] (Hp μ')
  | 0, c, μ', w7, e, h1, h2 => by
    have : c = 8 := by omega
    subst this
    refine E_iload dX11_clears_91 rfl ?_
    refine E_bipush dX11_clears_93 ?_
    refine E_icmp_ge 158 dX11_clears_95 (fun h95 => ?_) (fun h95 => ?_)
    · -- 158
      exact hk μ' _ _ (fun r j hr hj => by rw [h1 r j hr hj, if_pos hj]) h2
    · -- 98
      exfalso; omega
  | t + 1, c, μ', w7, e, h1, h2 => by
    have ih := cl_rows (b := b) (s := s) (w3 := w3) hk8 ha8 hk t (c + 1)
    rw [show ((c + 1 : Nat) : Int) = (c : Int) + 1 by omega] at ih
    have va : μ' 212 (8 * (a : Int) + (c : Int)) = gM μ a c := by have := h1 a c ha8 (by omega); rw [if_neg (by omega)] at this; exact this
    have vk : μ' 212 (8 * (k : Int) + (c : Int)) = gM μ k c := by have := h1 k c hk8 (by omega); rw [if_neg (by omega)] at this; exact this
    refine E_iload dX11_clears_91 rfl ?_
    refine E_bipush dX11_clears_93 ?_
    refine E_icmp_ge 158 dX11_clears_95 (fun h95 => ?_) (fun h95 => ?_)
    · -- 158
      exfalso; omega
    · -- 98
      skip
      refine E_aload_n dX11_clears_98 rfl ?_
      refine GX11_36 sk_203 dX11_clears_99 ?_
      refine E_bipush dX11_clears_102 ?_
      refine E_iload dX11_clears_104 rfl ?_
      refine E_imul dX11_clears_106 ?_
      refine E_iload dX11_clears_107 rfl ?_
      refine E_iadd dX11_clears_109 ?_
      refine H_iald sk_212 dX11_clears_110 ?_
      rw [va]
      refine E_istore dX11_clears_111 ?_
      refine E_aload_n dX11_clears_113 rfl ?_
      refine GX11_36 sk_203 dX11_clears_114 ?_
      refine E_bipush dX11_clears_117 ?_
      refine E_iload dX11_clears_119 rfl ?_
      refine E_imul dX11_clears_121 ?_
      refine E_iload dX11_clears_122 rfl ?_
      refine E_iadd dX11_clears_124 ?_
      refine E_aload_n dX11_clears_125 rfl ?_
      refine GX11_36 sk_203 dX11_clears_126 ?_
      refine E_bipush dX11_clears_129 ?_
      refine E_iload_n dX11_clears_131 rfl ?_
      refine E_imul dX11_clears_132 ?_
      refine E_iload dX11_clears_133 rfl ?_
      refine E_iadd dX11_clears_135 ?_
      refine H_iald sk_212 dX11_clears_136 ?_
      rw [vk]
      refine H_iast sk_212 dX11_clears_137 ?_
      refine E_aload_n dX11_clears_138 rfl ?_
      refine GX11_36 sk_203 dX11_clears_139 ?_
      refine E_bipush dX11_clears_142 ?_
      refine E_iload_n dX11_clears_144 rfl ?_
      refine E_imul dX11_clears_145 ?_
      refine E_iload dX11_clears_146 rfl ?_
      refine E_iadd dX11_clears_148 ?_
      refine E_iload dX11_clears_149 rfl ?_
      refine H_iast sk_212 dX11_clears_151 ?_
      refine E_iinc dX11_clears_152 rfl ?_
      refine E_goto 91 dX11_clears_155 ?_
      refine ih _ _ (by omega) (fun r j hr hj => ?_) (fun q hq => by rw [up_ne q hq, up_ne q hq]; exact h2 q hq)
      show up (up μ' 212 (8 * (a : Int) + (c : Int)) (gM μ k c)) 212 (8 * (k : Int) + (c : Int)) (gM μ a c) 212 (8 * (r : Int) + (j : Int)) = _
      rw [up_r, up_r]
      have h3 := h1 r j hr hj
      unfold swp at h3 ⊢
      by_cases ej : j = c
      · subst ej
        rw [if_pos (show j < j + 1 by omega)]
        by_cases e1 : r = k
        · subst e1
          rw [if_pos (by omega)]
          by_cases e2 : r = a
          · rw [if_pos e2]; rw [e2]
          · rw [if_neg e2, if_pos rfl]
        · rw [if_neg (by omega)]
          by_cases e2 : r = a
          · rw [if_pos (by omega), if_pos e2]
          · rw [if_neg (by omega), if_neg e2, if_neg e1]
            rw [if_neg (show ¬ j < j by omega)] at h3
            exact h3
      · rw [if_neg (by omega), if_neg (by omega)]
        show gM μ' r j = _
        rw [h3]
        by_cases ec : j < c
        · rw [if_pos ec, if_pos (show j < c + 1 by omega)]
        · rw [if_neg ec, if_neg (show ¬ j < c + 1 by omega)]
/-- columns b and k change places -/
theorem cl_cols {k s a b : Nat} {w3 w4 : Value} {Q : QT} (hk8 : k < 8) (hb8 : b < 8) (hk : ∀ (μ2 : Mem) (w6 w7 : Value), (∀ r c : Nat, r < 8 → c < 8 → gM μ2 r c = gM μ r (swp b k c)) → (∀ q : Nat, q ≠ 212 → μ2 q = μ q) → E G mX11_clears (Zq G mX11_clears Q) 0 0 228 [.ref 203, vi (k : Int), vi (s : Int), w3, w4, vi (b : Int), w6, w7, .retAddr 0, .retAddr 0, .retAddr 0] [] (Hp μ2)) : ∀ (t c : Nat) (μ' : Mem) (w7 : Value), c + t = 8 → (∀ r j : Nat, r < 8 → j < 8 → gM μ' r j = if r < c then gM μ r (swp b k j) else gM μ r j) → (∀ q : Nat, q ≠ 212 → μ' q = μ q) →
    E G mX11_clears (Zq G mX11_clears Q) 0 0 161 [.ref 203, vi (k : Int), vi (s : Int), w3, w4, vi (b : Int), vi (c : Int), w7, .retAddr 0, .retAddr 0, .retAddr 0] [] (Hp μ')
  | 0, c, μ', w7, e, h1, h2 => by
    have : c = 8 := by omega
    subst this
    refine E_iload dX11_clears_161 rfl ?_
    refine E_bipush dX11_clears_163 ?_
    refine E_icmp_ge 228 dX11_clears_165 (fun h165 => ?_) (fun h165 => ?_)
    · -- 228
      exact hk μ' _ _ (fun r j hr hj => by rw [h1 r j hr hj, if_pos hr]) h2
    · -- 168
      exfalso; omega
  | t + 1, c, μ', w7, e, h1, h2 => by
    have ih := cl_cols (s := s) (a := a) (w3 := w3) (w4 := w4) hk8 hb8 hk t (c + 1)
    rw [show ((c + 1 : Nat) : Int) = (c : Int) + 1 by omega] at ih
    have vb : μ' 212 (8 * (c : Int) + (b : Int)) = gM μ c b := by have := h1 c b (by omega) hb8; rw [if_neg (by omega)] at this; exact this
    have vk : μ' 212 (8 * (c : Int) + (k : Int)) = gM μ c k := by have := h1 c k (by omega) hk8; rw [if_neg (by omega)] at this; exact this
    refine E_iload dX11_clears_161 rfl ?_
    refine E_bipush dX11_clears_163 ?_
    refine E_icmp_ge 228 dX11_clears_165 (fun h165 => ?_) (fun h165 => ?_)
    · -- 228
      exfalso; omega
    · -- 168
      refine E_aload_n dX11_clears_168 rfl ?_
      refine GX11_36 sk_203 dX11_clears_169 ?_
      refine E_bipush dX11_clears_172 ?_
      refine E_iload dX11_clears_174 rfl ?_
      refine E_imul dX11_clears_176 ?_
      refine E_iload dX11_clears_177 rfl ?_
      refine E_iadd dX11_clears_179 ?_
      refine H_iald sk_212 dX11_clears_180 ?_
      rw [vb]
      refine E_istore dX11_clears_181 ?_
      refine E_aload_n dX11_clears_183 rfl ?_
      refine GX11_36 sk_203 dX11_clears_184 ?_
      refine E_bipush dX11_clears_187 ?_
      refine E_iload dX11_clears_189 rfl ?_
      refine E_imul dX11_clears_191 ?_
      refine E_iload dX11_clears_192 rfl ?_
      refine E_iadd dX11_clears_194 ?_
      refine E_aload_n dX11_clears_195 rfl ?_
      refine GX11_36 sk_203 dX11_clears_196 ?_
      refine E_bipush dX11_clears_199 ?_
      refine E_iload dX11_clears_201 rfl ?_
      refine E_imul dX11_clears_203 ?_
      refine E_iload_n dX11_clears_204 rfl ?_
      refine E_iadd dX11_clears_205 ?_
      refine H_iald sk_212 dX11_clears_206 ?_
      rw [vk]
      refine H_iast sk_212 dX11_clears_207 ?_
      refine E_aload_n dX11_clears_208 rfl ?_
      refine GX11_36 sk_203 dX11_clears_209 ?_
      refine E_bipush dX11_clears_212 ?_
      refine E_iload dX11_clears_214 rfl ?_
      refine E_imul dX11_clears_216 ?_
      refine E_iload_n dX11_clears_217 rfl ?_
      refine E_iadd dX11_clears_218 ?_
      refine E_iload dX11_clears_219 rfl ?_
      refine H_iast sk_212 dX11_clears_221 ?_
      refine E_iinc dX11_clears_222 rfl ?_
      refine E_goto 161 dX11_clears_225 ?_
      refine ih _ _ (by omega) (fun r j hr hj => ?_) (fun q hq => by rw [up_ne q hq, up_ne q hq]; exact h2 q hq)
      show up (up μ' 212 (8 * (c : Int) + (b : Int)) (gM μ c k)) 212 (8 * (c : Int) + (k : Int)) (gM μ c b) 212 (8 * (r : Int) + (j : Int)) = _
      rw [up_r, up_r]
      have h3 := h1 r j hr hj
      unfold swp at h3 ⊢
      by_cases ej : r = c
      · subst ej
        rw [if_pos (show r < r + 1 by omega)]
        by_cases e1 : j = k
        · subst e1
          rw [if_pos (by omega)]
          by_cases e2 : j = b
          · rw [if_pos e2]; rw [e2]
          · rw [if_neg e2, if_pos rfl]
        · rw [if_neg (by omega)]
          by_cases e2 : j = b
          · rw [if_pos (by omega), if_pos e2]
          · rw [if_neg (by omega), if_neg e2, if_neg e1]
            rw [if_neg (show ¬ r < r by omega)] at h3
            exact h3
      · rw [if_neg (by omega), if_neg (by omega)]
        show gM μ' r j = _
        rw [h3]
        by_cases ec : r < c
        · rw [if_pos ec, if_pos (show r < c + 1 by omega)]
        · rw [if_neg ec, if_neg (show ¬ r < c + 1 by omega)]
end MTWOS
