/-! FibredSpacesModel: unwraps -/
theorem prt_ok {m : Int} {x : Fib} (hx : fibOk x) (hm : Int.gcd x.1 m = 1) : 1 ≤ (prt m x).2 ∧ (prt m x).2 < x.1 ∧ m * (prt m x).2 % x.1 = x.2 ∧ ∀ z : Int, 1 ≤ z → z < x.1 → m * z % x.1 = x.2 → z = (prt m x).2 := by
  obtain ⟨x1, x2, x3, x4, -⟩ := hx
  have hi : (invI m x.1 * m - 1) % x.1 = 0 := invI_spec (x := m) (m := x.1) (by omega) (by rw [Int.gcd_comm]; exact hm)
  have hdv := Int.dvd_of_emod_eq_zero hi
  have c0 : 0 ≤ (prt m x).2 := Int.emod_nonneg _ (by omega)
  have c1 : (prt m x).2 < x.1 := Int.emod_lt_of_pos _ (by omega)
  have e : x.2 * invI m x.1 - x.1 * (x.2 * invI m x.1 / x.1) = (prt m x).2 := by
    have := Int.mul_ediv_add_emod (x.2 * invI m x.1) x.1
    simp only [prt]
    omega
  have c2 : m * (prt m x).2 % x.1 = x.2 := by
    have h2 : x.2 % x.1 = x.2 := Int.emod_eq_of_lt (by omega) x4
    rw [← h2]
    apply Int.emod_eq_emod_iff_emod_sub_eq_zero.mpr
    apply Int.emod_eq_zero_of_dvd
    have e2 : m * (prt m x).2 - x.2 = x.2 * (invI m x.1 * m - 1) - x.1 * (m * (x.2 * invI m x.1 / x.1)) := by
      rw [← e, Int.mul_sub, Int.mul_sub, Int.mul_one, Int.mul_left_comm m x.1, Int.mul_comm m (x.2 * invI m x.1), Int.mul_assoc]; omega
    rw [e2]
    exact Int.dvd_sub (Int.dvd_trans hdv (Int.dvd_mul_left ..)) (Int.dvd_mul_right ..)
  refine ⟨?_, c1, c2, fun z z1 z2 hz => ?_⟩
  · rcases (show (prt m x).2 = 0 ∨ 1 ≤ (prt m x).2 by omega) with h | h
    · rw [h, Int.mul_zero, Int.zero_emod] at c2; omega
    · exact h
  · have h3 : (m * z - m * (prt m x).2) % x.1 = 0 := Int.emod_eq_emod_iff_emod_sub_eq_zero.mp (by rw [hz, c2])
    have h4 : x.1 ∣ z - (prt m x).2 := by
      have e3 : z - (prt m x).2 = invI m x.1 * (m * z - m * (prt m x).2) - (invI m x.1 * m - 1) * (z - (prt m x).2) := by
        rw [Int.sub_mul, Int.one_mul, ← Int.mul_sub m, Int.mul_assoc]; omega
      rw [e3]
      exact Int.dvd_sub (Int.dvd_trans (Int.dvd_of_emod_eq_zero h3) (Int.dvd_mul_left ..)) (Int.dvd_trans hdv (Int.dvd_mul_right ..))
    have h5 := Int.emod_eq_emod_iff_emod_sub_eq_zero.mpr (Int.emod_eq_zero_of_dvd h4)
    rw [Int.emod_eq_of_lt (by omega) z2, Int.emod_eq_of_lt c0 c1] at h5
    exact h5
theorem putAll_1 {m : Int} : ∀ (l : List Fib) (d : Sp), (putAll d l m).1 = d.1 ∧ (putAll d l m).2.1 = d.2.1
  | [], _ => ⟨rfl, rfl⟩
  | x :: l, d => putAll_1 l (put d x.1 (x.2 * m))
section MUNW
variable {G : GT} {μ : Mem} {M : HV} {σ : St}
theorem unw_in {i m sh : Int} {s : Sp} {Q : QT} {n : Nat} {x : Fib} {μ' : Mem} (hi : isS i) (hm : 2 ≤ m ∧ m ≤ 9) (hs : RepN μ' 204 (16 * i) s) (hn : n < 6) (hx : s.2.2.2[n]? = some x) (hok : fibOk x) (hg : Int.gcd x.1 m = 1) (hk : E G mX11_unwraps (Zq G mX11_unwraps Q) 0 0 118 [.ref 203, vi i, vi m, vi sh, vi (n : Int), vi (prt m x).2] [] (Hp μ')) : ∀ (t : Nat) (z : Int), z + t = (prt m x).2 → 1 ≤ z →
    E G mX11_unwraps (Zq G mX11_unwraps Q) 0 0 90 [.ref 203, vi i, vi m, vi sh, vi (n : Int), vi z] [] (Hp μ')
  | 0, z, e, z1 => by
    obtain ⟨p1, p2, p3, p4⟩ := prt_ok hok hg
    obtain ⟨x1, x2, x3, x4, -⟩ := id hok
    obtain rfl : z = (prt m x).2 := by omega
    have hb := Int.mul_nonneg (show 0 ≤ m by omega) (show 0 ≤ (prt m x).2 by omega)
    have hb2 := Int.mul_le_mul_of_nonneg_right (show m ≤ 9 by omega) (show 0 ≤ (prt m x).2 by omega)
    have ht : (m * (prt m x).2).tmod x.1 = x.2 := by rw [Int.tmod_eq_emod_of_nonneg hb]; exact p3
    refine E_iload_n dX11_unwraps_90 rfl ?_
    refine E_iload dX11_unwraps_91 rfl ?_
    refine E_imul dX11_unwraps_93 ?_
    refine E_aload_n dX11_unwraps_94 rfl ?_
    refine E_iload_n dX11_unwraps_95 rfl ?_
    refine E_iload dX11_unwraps_96 rfl ?_
    refine E_callVR dX11_unwraps_98 lkX11_90 (Hp_get sk_203) (m_a hi hs hn hx) ?_
    refine E_irem dX11_unwraps_101 ?_
    refine E_aload_n dX11_unwraps_102 rfl ?_
    refine E_iload_n dX11_unwraps_103 rfl ?_
    refine E_iload dX11_unwraps_104 rfl ?_
    refine E_callVR dX11_unwraps_106 lkX11_93 (Hp_get sk_203) (m_b hi hs hn hx) ?_
    refine E_icmp_eq 118 dX11_unwraps_109 (fun h109 => ?_) (fun h109 => ?_)
    · -- 118
      exact hk
    · -- 112
      exfalso; omega
  | t + 1, z, e, z1 => by
    obtain ⟨p1, p2, p3, p4⟩ := prt_ok hok hg
    obtain ⟨x1, x2, x3, x4, -⟩ := id hok
    have hb := Int.mul_nonneg (show 0 ≤ m by omega) (show 0 ≤ z by omega)
    have hb2 := Int.mul_le_mul_of_nonneg_right (show m ≤ 9 by omega) (show 0 ≤ z by omega)
    have ht : (m * z).tmod x.1 = m * z % x.1 := Int.tmod_eq_emod_of_nonneg hb
    have t1 := Int.emod_nonneg (m * z) (show x.1 ≠ 0 by omega)
    have t2 := Int.emod_lt_of_pos (m * z) (show 0 < x.1 by omega)
    have hne : m * z % x.1 ≠ x.2 := fun h => by have := p4 z z1 (by omega) h; omega
    refine E_iload_n dX11_unwraps_90 rfl ?_
    refine E_iload dX11_unwraps_91 rfl ?_
    refine E_imul dX11_unwraps_93 ?_
    refine E_aload_n dX11_unwraps_94 rfl ?_
    refine E_iload_n dX11_unwraps_95 rfl ?_
    refine E_iload dX11_unwraps_96 rfl ?_
    refine E_callVR dX11_unwraps_98 lkX11_90 (Hp_get sk_203) (m_a hi hs hn hx) ?_
    refine E_irem dX11_unwraps_101 ?_
    rw [ht]
    refine E_aload_n dX11_unwraps_102 rfl ?_
    refine E_iload_n dX11_unwraps_103 rfl ?_
    refine E_iload dX11_unwraps_104 rfl ?_
    refine E_callVR dX11_unwraps_106 lkX11_93 (Hp_get sk_203) (m_b hi hs hn hx) ?_
    refine E_icmp_eq 118 dX11_unwraps_109 (fun h109 => ?_) (fun h109 => ?_)
    · -- 118
      exact absurd h109 hne
    · -- 112
      refine E_iinc dX11_unwraps_112 rfl ?_
      refine E_goto 90 dX11_unwraps_115 ?_
      exact unw_in hi hm hs hn hx hok hg hk t (z + 1) (by omega) (by omega)
theorem unw_loop {i m : Int} {s : Sp} {Q : QT} (hi : isS i) (hm : 2 ≤ m ∧ m ≤ 9) (hs : RepN μ 204 (16 * i) s) (hok : spOk s) (hg : ∀ x ∈ s.2.2.2, Int.gcd x.1 m = 1) : ∀ (q p : List Fib) (e : Sp) (sh : Int) (μ' : Mem) (w5 : Value), p ++ q = s.2.2.2 → -100000 - 10 * (p.length : Int) ≤ sh ∧ sh ≤ 100000 → RepB μ' e → (∀ y ∈ e.2.2.2, smF y) → e.2.2.2.length ≤ p.length → OffB μ μ' →
    (∀ (μ2 : Mem) (w4 w5 : Value), -200000 ≤ sh - carry m q ∧ sh - carry m q ≤ 100000 → RepB μ2 (putAll e (q.map (prt m)) 1) → OffB μ μ2 → E G mX11_unwraps (Zq G mX11_unwraps Q) 0 0 152 [.ref 203, vi i, vi m, vi (sh - carry m q), w4, w5] [] (Hp μ2)) →
    E G mX11_unwraps (Zq G mX11_unwraps Q) 0 0 77 [.ref 203, vi i, vi m, vi sh, vi (p.length : Int), w5] [] (Hp μ') := by
  have hb := hok.2.2.2.2.2.1
  have j1 := hi.1
  have j2 := hi.2
  intro q
  induction q with
  | nil =>
    intro p e sh μ' w5 h1 hsh h2 h3 hl h4 hk
    have hs' := hs.kept h4.now
    have hp : p.length = s.2.2.2.length := by rw [← h1]; simp
    have ec : sh - carry m [] = sh := by simp [carry]
    rw [ec] at hk
    refine E_iload dX11_unwraps_77 rfl ?_
    refine E_aload_n dX11_unwraps_79 rfl ?_
    refine E_iload_n dX11_unwraps_80 rfl ?_
    refine E_callVR dX11_unwraps_81 lkX11_100 (Hp_get sk_203) (m_fibres hi hs') ?_
    refine E_icmp_ge 152 dX11_unwraps_84 (fun h84 => ?_) (fun h84 => ?_)
    · -- 152
      exact hk μ' _ _ (by omega) h2 h4
    · -- 87
      exfalso; omega
  | cons x q ih =>
    intro p e sh μ' w5 h1 hsh h2 h3 hl h4 hk
    have hs' := hs.kept h4.now
    have hp : p.length + 1 + q.length = s.2.2.2.length := by rw [← h1]; simp; omega
    have hx : s.2.2.2[p.length]? = some x := by rw [← h1]; simp
    have hxo := hok.2.2.2.2.2.2 x (List.mem_of_getElem? hx)
    have hxg := hg x (List.mem_of_getElem? hx)
    obtain ⟨p1, p2, p3, p4⟩ := prt_ok hxo hxg
    obtain ⟨x1, x2, x3, x4, -⟩ := id hxo
    have hb1 := Int.mul_nonneg (show 0 ≤ m by omega) (show 0 ≤ (prt m x).2 by omega)
    have hb2 := Int.mul_le_mul_of_nonneg_right (show m ≤ 9 by omega) (show 0 ≤ (prt m x).2 by omega)
    have hdv : (m * (prt m x).2).tdiv x.1 = (prt m x).2 * m / x.1 := by rw [Int.tdiv_eq_ediv_of_nonneg hb1, Int.mul_comm]
    have hd0 : 0 ≤ (prt m x).2 * m / x.1 := Int.ediv_nonneg (by rw [Int.mul_comm]; exact hb1) (by omega)
    have hd1 : (prt m x).2 * m / x.1 ≤ 9 := Int.ediv_le_of_le_mul (by omega) (by rw [Int.mul_comm (prt m x).2]; omega)
    have ec : carry m (x :: q) = (prt m x).2 * m / x.1 + carry m q := by simp [carry]
    rw [ec, show putAll e ((x :: q).map (prt m)) 1 = putAll (put e x.1 ((prt m x).2 * 1)) (q.map (prt m)) 1 from rfl, Int.mul_one, show sh - ((prt m x).2 * m / x.1 + carry m q) = sh - (prt m x).2 * m / x.1 - carry m q by omega] at hk
    have key : ∀ μ2 : Mem, RepB μ2 (put e x.1 (prt m x).2) → OffB μ μ2 → E G mX11_unwraps (Zq G mX11_unwraps Q) 0 0 77 [.ref 203, vi i, vi m, vi (sh - (prt m x).2 * m / x.1), vi ((p.length : Int) + 1), vi (prt m x).2] [] (Hp μ2) := fun μ2 g1 g2 => by
      have t := ih (p ++ [x]) _ (sh - (prt m x).2 * m / x.1) μ2 (vi (prt m x).2) (by rw [← h1]; simp) (by simp; omega) g1 (smF_put (by omega) h3) (by have := putm_len (d := e) (a := x.1) (b := (prt m x).2); simp; omega) g2 hk
      rw [show ((p ++ [x]).length : Int) = (p.length : Int) + 1 by simp] at t
      exact t
    have tail : E G mX11_unwraps (Zq G mX11_unwraps Q) 0 0 118 [.ref 203, vi i, vi m, vi sh, vi (p.length : Int), vi (prt m x).2] [] (Hp μ') := by
      refine E_aload_n dX11_unwraps_118 rfl ?_
      refine E_aload_n dX11_unwraps_119 rfl ?_
      refine E_iload_n dX11_unwraps_120 rfl ?_
      refine E_iload dX11_unwraps_121 rfl ?_
      refine E_callVR dX11_unwraps_123 lkX11_90 (Hp_get sk_203) (m_a hi hs' (by omega) hx) ?_
      refine E_iload dX11_unwraps_126 rfl ?_
      refine E_callVV dX11_unwraps_128 lkX11_104 (Hp_get sk_203) (m_add (a := x.1) (b := (prt m x).2) h2 (by omega) (by omega) h3 (by omega)) ?_
      rintro μ2 ⟨g1, g2⟩
      refine E_iload_n dX11_unwraps_131 rfl ?_
      refine E_iload_n dX11_unwraps_132 rfl ?_
      refine E_iload dX11_unwraps_133 rfl ?_
      refine E_imul dX11_unwraps_135 ?_
      refine E_aload_n dX11_unwraps_136 rfl ?_
      refine E_iload_n dX11_unwraps_137 rfl ?_
      refine E_iload dX11_unwraps_138 rfl ?_
      refine E_callVR dX11_unwraps_140 lkX11_90 (Hp_get sk_203) (m_a hi (hs'.kept g2.now) (by omega) hx) ?_
      refine E_idiv dX11_unwraps_143 ?_
      rw [hdv]
      refine E_isub dX11_unwraps_144 ?_
      refine E_istore_n dX11_unwraps_145 ?_
      refine E_iinc dX11_unwraps_146 rfl ?_
      refine E_goto 77 dX11_unwraps_149 ?_
      exact key μ2 g1 (h4.tr g2)
    refine E_iload dX11_unwraps_77 rfl ?_
    refine E_aload_n dX11_unwraps_79 rfl ?_
    refine E_iload_n dX11_unwraps_80 rfl ?_
    refine E_callVR dX11_unwraps_81 lkX11_100 (Hp_get sk_203) (m_fibres hi hs') ?_
    refine E_icmp_ge 152 dX11_unwraps_84 (fun h84 => ?_) (fun h84 => ?_)
    · -- 152
      exfalso; omega
    · -- 87
      refine E_iconst dX11_unwraps_87 ?_
      refine E_istore dX11_unwraps_88 ?_
      exact unw_in hi hm hs' (by omega) hx hxo hxg tail ((prt m x).2 - 1).toNat 1 (by omega) (by omega)
theorem m_unwraps {i m : Int} (hi : -2147483648 ≤ i ∧ i < 2147483648) (hm : -2147483648 ≤ m ∧ m < 2147483648) (hM : RepM μ σ) (hok : stOk σ) : Ctr G mX11_unwraps [.ref 203, vi i, vi m] (Hp μ) (NQ μ (sUnwraps σ i m)) := by
  refine Ctr.of ?_
  have hsi := m_isSpace (G := G) (M := Hp μ) hi
  have him := m_in (G := G) (M := Hp μ) (v := m) (lo := 2) (hi := 9) (by omega) (by omega) (by omega)
  by_cases q1 : isS i
  · rw [cif_pos q1] at hsi
    have j1 := q1.1
    have j2 := q1.2
    have hn := rn_at q1 hM.1
    have ho := ok_at q1 hok.1
    obtain ⟨o0, o1, o2, o3, o4, o5, o6⟩ := id ho
    by_cases q2 : 2 ≤ m ∧ m ≤ 9
    · rw [cif_pos q2] at him
      rw [show sUnwraps σ i m = _ from cif_neg (not_not_intro ⟨q1, q2⟩)]
      have hfr := m_isFree (G := G) q1 q2 hn ho
      by_cases q3 : cop m (σ.1 i.toNat).2.2.2 = true
      · rw [if_pos q3] at hfr
        have hlen := putAll_len (m := 1) ((σ.1 i.toNat).2.2.2.map (prt m)) ((σ.1 i.toNat).1, (σ.1 i.toNat).2.1, 0, [])
        simp only [List.length_nil, List.length_map] at hlen
        have hp1 := putAll_1 (m := 1) ((σ.1 i.toNat).2.2.2.map (prt m)) ((σ.1 i.toNat).1, (σ.1 i.toNat).2.1, 0, [])
        generalize hS : (σ.1 i.toNat).2.2.1 - carry m (σ.1 i.toNat).2.2.2 = S
        by_cases q4 : S / m * m = S
        · rw [cif_pos ⟨q3, q4⟩]
          have ht : S.tmod m = 0 := by
            rw [← q4]; exact Int.mul_tmod_left _ _
          have hd : S.tdiv m = S / m := by
            have e := Int.mul_tdiv_cancel (S / m) (show m ≠ 0 by omega)
            rw [q4] at e
            exact e
          have fin : ∀ (μ2 : Mem) (w4 w5 : Value), -200000 ≤ S ∧ S ≤ 100000 → RepB μ2 (putAll ((σ.1 i.toNat).1, (σ.1 i.toNat).2.1, 0, []) ((σ.1 i.toNat).2.2.2.map (prt m)) 1) → OffB μ μ2 → E G mX11_unwraps (Zq G mX11_unwraps (NQ μ (sSettle σ i ((σ.1 i.toNat).1, (σ.1 i.toNat).2.1, S / m, (putAll ((σ.1 i.toNat).1, (σ.1 i.toNat).2.1, 0, []) ((σ.1 i.toNat).2.2.2.map (prt m)) 1).2.2.2) 1))) 0 0 152 [.ref 203, vi i, vi m, vi S, w4, w5] [] (Hp μ2) := by
            intro μ2 w4 w5 hSr g1 g2
            have hS1 : -200000 ≤ S / m := Int.le_ediv_of_mul_le (by omega) (by omega)
            have hS2 : S / m ≤ 100000 := Int.ediv_le_of_le_mul (by omega) (by omega)
            have hB : RepB (up μ2 203 7 (S / m)) ((σ.1 i.toNat).1, (σ.1 i.toNat).2.1, S / m, (putAll ((σ.1 i.toNat).1, (σ.1 i.toNat).2.1, 0, []) ((σ.1 i.toNat).2.2.2.map (prt m)) 1).2.2.2) := by
              obtain ⟨b1, b2, b3, b4, b5⟩ := g1
              rw [hp1.1] at b1
              rw [hp1.2] at b2
              refine ⟨?_, ?_, ?_, ?_, b5.kept (up_ne 208 (by decide)) (up_ne 209 (by decide))⟩
              · rw [up_r, if_neg (by omega)]; exact b1
              · rw [up_r, if_neg (by omega)]; exact b2
              · rw [up_r, if_pos rfl]
              · rw [up_r, if_neg (by omega)]; exact b4
            have hO : OffB μ (up μ2 203 7 (S / m)) := g2.fld (by omega)
            refine E_iload_n dX11_unwraps_152 rfl ?_
            refine E_iload_n dX11_unwraps_153 rfl ?_
            refine E_irem dX11_unwraps_154 ?_
            refine E_if_eq 161 dX11_unwraps_155 (fun h155 => ?_) (fun h155 => ?_)
            · -- 161
              refine E_aload_n dX11_unwraps_161 rfl ?_
              refine E_iload_n dX11_unwraps_162 rfl ?_
              refine E_iload_n dX11_unwraps_163 rfl ?_
              refine E_idiv dX11_unwraps_164 ?_
              rw [hd]
              refine PX11_73 sk_203 dX11_unwraps_165 ?_
              refine E_aload_n dX11_unwraps_168 rfl ?_
              refine E_iload_n dX11_unwraps_169 rfl ?_
              refine E_iconst dX11_unwraps_170 ?_
              refine E_callVP dX11_unwraps_171 lkX11_157 (Hp_get sk_203) (m_lays (a := 1) q1 (hM.off hO.w) hok hB (by simp only; omega) (by simp only; omega) (by simp only; omega)) (fun v M' hv => ?_)
              obtain ⟨rfl, -⟩ := id hv
              exact E_iret dX11_unwraps_174 (NQ.pre hO.lo hv)
            · -- 158
              exact absurd ht h155
          rw [← hS] at fin
          refine E_iload_n dX11_unwraps_0 rfl ?_
          refine E_callSR dX11_unwraps_1 lkX11_147 (hsi) ?_
          refine E_if_eq 21 dX11_unwraps_4 (fun h4 => ?_) (fun h4 => ?_)
          · -- 21
            first | exact absurd h4 (by decide) | exact absurd h18 (by decide)
          · -- 7
            refine E_iload_n dX11_unwraps_7 rfl ?_
            refine E_i2l dX11_unwraps_8 ?_
            refine E_ldc2 dX11_unwraps_9 coX11_174 ?_
            refine E_ldc2 dX11_unwraps_12 coX11_176 ?_
            refine E_callSR dX11_unwraps_15 lkX11_63 (him) ?_
            refine E_if_ne 23 dX11_unwraps_18 (fun h18 => ?_) (fun h18 => ?_)
            · -- 23
              refine E_aload_n dX11_unwraps_23 rfl ?_
              refine E_iload_n dX11_unwraps_24 rfl ?_
              refine E_iload_n dX11_unwraps_25 rfl ?_
              refine E_callVR dX11_unwraps_26 lkX11_178 (Hp_get sk_203) (hfr) ?_
              refine E_if_ne 35 dX11_unwraps_29 (fun h29 => ?_) (fun h29 => ?_)
              · -- 35
                refine E_aload_n dX11_unwraps_35 rfl ?_
                refine GX11_7 sk_203 dX11_unwraps_36 ?_
                refine E_bipush dX11_unwraps_39 ?_
                refine E_iload_n dX11_unwraps_41 rfl ?_
                refine E_imul dX11_unwraps_42 ?_
                refine E_iconst dX11_unwraps_43 ?_
                refine E_iadd dX11_unwraps_44 ?_
                refine H_iald sk_204 dX11_unwraps_45 ?_
                rw [hn.2.2.1]
                refine E_istore_n dX11_unwraps_46 ?_
                refine E_aload_n dX11_unwraps_47 rfl ?_
                refine E_aload_n dX11_unwraps_48 rfl ?_
                refine GX11_7 sk_203 dX11_unwraps_49 ?_
                refine E_bipush dX11_unwraps_52 ?_
                refine E_iload_n dX11_unwraps_54 rfl ?_
                refine E_imul dX11_unwraps_55 ?_
                refine E_iconst dX11_unwraps_56 ?_
                refine E_iadd dX11_unwraps_57 ?_
                rw [Int.add_zero]
                refine H_iald sk_204 dX11_unwraps_58 ?_
                rw [hn.1]
                refine E_aload_n dX11_unwraps_59 rfl ?_
                refine GX11_7 sk_203 dX11_unwraps_60 ?_
                refine E_bipush dX11_unwraps_63 ?_
                refine E_iload_n dX11_unwraps_65 rfl ?_
                refine E_imul dX11_unwraps_66 ?_
                refine E_iconst dX11_unwraps_67 ?_
                refine E_iadd dX11_unwraps_68 ?_
                refine H_iald sk_204 dX11_unwraps_69 ?_
                rw [hn.2.1]
                refine E_iconst dX11_unwraps_70 ?_
                refine E_callVV dX11_unwraps_71 lkX11_96 (Hp_get sk_203) (m_begin) ?_
                rintro μ1 ⟨a1, a2⟩
                refine E_iconst dX11_unwraps_74 ?_
                refine E_istore dX11_unwraps_75 ?_
                rw [← hS]
                exact unw_loop (μ := μ) q1 q2 hn ho (cop_all q3) (σ.1 i.toNat).2.2.2 [] _ _ μ1 _ rfl (by simp; omega) a1 (fun y hy => by simp at hy) (by simp) a2 fin
              · -- 32
                exact absurd h29 (by decide)
            · -- 21
              first | exact absurd h4 (by decide) | exact absurd h18 (by decide)
        · rw [cif_neg (fun h => q4 h.2)]
          have ht : S.tmod m ≠ 0 := fun h => q4 (by
            have e := Int.tdiv_mul_add_tmod S m
            rw [h, Int.add_zero] at e
            have e2 : S / m = S.tdiv m := by
              have := Int.mul_ediv_cancel (S.tdiv m) (show m ≠ 0 by omega)
              rw [e] at this
              exact this
            rw [e2]; exact e)
          have fin : ∀ (μ2 : Mem) (w4 w5 : Value), -200000 ≤ S ∧ S ≤ 100000 → RepB μ2 (putAll ((σ.1 i.toNat).1, (σ.1 i.toNat).2.1, 0, []) ((σ.1 i.toNat).2.2.2.map (prt m)) 1) → OffB μ μ2 → E G mX11_unwraps (Zq G mX11_unwraps (NQ μ (-2, σ))) 0 0 152 [.ref 203, vi i, vi m, vi S, w4, w5] [] (Hp μ2) := by
            intro μ2 w4 w5 hSr g1 g2
            have t1 : -9 ≤ S.tmod m ∧ S.tmod m ≤ 9 := by
              have := Int.tmod_lt_of_pos S (show 0 < m by omega)
              have := Int.lt_tmod_of_pos S (show 0 < m by omega)
              omega
            refine E_iload_n dX11_unwraps_152 rfl ?_
            refine E_iload_n dX11_unwraps_153 rfl ?_
            refine E_irem dX11_unwraps_154 ?_
            refine E_if_eq 161 dX11_unwraps_155 (fun h155 => ?_) (fun h155 => ?_)
            · -- 161
              exact absurd h155 ht
            · -- 158
              refine E_bipush dX11_unwraps_158 ?_
              refine E_iret dX11_unwraps_160 ?_
              exact ⟨rfl, _, rfl, hM.off g2.w, g2.lo⟩
          rw [← hS] at fin
          refine E_iload_n dX11_unwraps_0 rfl ?_
          refine E_callSR dX11_unwraps_1 lkX11_147 (hsi) ?_
          refine E_if_eq 21 dX11_unwraps_4 (fun h4 => ?_) (fun h4 => ?_)
          · -- 21
            first | exact absurd h4 (by decide) | exact absurd h18 (by decide)
          · -- 7
            refine E_iload_n dX11_unwraps_7 rfl ?_
            refine E_i2l dX11_unwraps_8 ?_
            refine E_ldc2 dX11_unwraps_9 coX11_174 ?_
            refine E_ldc2 dX11_unwraps_12 coX11_176 ?_
            refine E_callSR dX11_unwraps_15 lkX11_63 (him) ?_
            refine E_if_ne 23 dX11_unwraps_18 (fun h18 => ?_) (fun h18 => ?_)
            · -- 23
              refine E_aload_n dX11_unwraps_23 rfl ?_
              refine E_iload_n dX11_unwraps_24 rfl ?_
              refine E_iload_n dX11_unwraps_25 rfl ?_
              refine E_callVR dX11_unwraps_26 lkX11_178 (Hp_get sk_203) (hfr) ?_
              refine E_if_ne 35 dX11_unwraps_29 (fun h29 => ?_) (fun h29 => ?_)
              · -- 35
                refine E_aload_n dX11_unwraps_35 rfl ?_
                refine GX11_7 sk_203 dX11_unwraps_36 ?_
                refine E_bipush dX11_unwraps_39 ?_
                refine E_iload_n dX11_unwraps_41 rfl ?_
                refine E_imul dX11_unwraps_42 ?_
                refine E_iconst dX11_unwraps_43 ?_
                refine E_iadd dX11_unwraps_44 ?_
                refine H_iald sk_204 dX11_unwraps_45 ?_
                rw [hn.2.2.1]
                refine E_istore_n dX11_unwraps_46 ?_
                refine E_aload_n dX11_unwraps_47 rfl ?_
                refine E_aload_n dX11_unwraps_48 rfl ?_
                refine GX11_7 sk_203 dX11_unwraps_49 ?_
                refine E_bipush dX11_unwraps_52 ?_
                refine E_iload_n dX11_unwraps_54 rfl ?_
                refine E_imul dX11_unwraps_55 ?_
                refine E_iconst dX11_unwraps_56 ?_
                refine E_iadd dX11_unwraps_57 ?_
                rw [Int.add_zero]
                refine H_iald sk_204 dX11_unwraps_58 ?_
                rw [hn.1]
                refine E_aload_n dX11_unwraps_59 rfl ?_
                refine GX11_7 sk_203 dX11_unwraps_60 ?_
                refine E_bipush dX11_unwraps_63 ?_
                refine E_iload_n dX11_unwraps_65 rfl ?_
                refine E_imul dX11_unwraps_66 ?_
                refine E_iconst dX11_unwraps_67 ?_
                refine E_iadd dX11_unwraps_68 ?_
                refine H_iald sk_204 dX11_unwraps_69 ?_
                rw [hn.2.1]
                refine E_iconst dX11_unwraps_70 ?_
                refine E_callVV dX11_unwraps_71 lkX11_96 (Hp_get sk_203) (m_begin) ?_
                rintro μ1 ⟨a1, a2⟩
                refine E_iconst dX11_unwraps_74 ?_
                refine E_istore dX11_unwraps_75 ?_
                exact unw_loop (μ := μ) q1 q2 hn ho (cop_all q3) (σ.1 i.toNat).2.2.2 [] _ _ μ1 _ rfl (by simp; omega) a1 (fun y hy => by simp at hy) (by simp) a2 fin
              · -- 32
                exact absurd h29 (by decide)
            · -- 21
              first | exact absurd h4 (by decide) | exact absurd h18 (by decide)
      · rw [cif_neg (fun h => q3 h.1)]
        rw [if_neg q3] at hfr
        refine E_iload_n dX11_unwraps_0 rfl ?_
        refine E_callSR dX11_unwraps_1 lkX11_147 (hsi) ?_
        refine E_if_eq 21 dX11_unwraps_4 (fun h4 => ?_) (fun h4 => ?_)
        · -- 21
          first | exact absurd h4 (by decide) | exact absurd h18 (by decide)
        · -- 7
          refine E_iload_n dX11_unwraps_7 rfl ?_
          refine E_i2l dX11_unwraps_8 ?_
          refine E_ldc2 dX11_unwraps_9 coX11_174 ?_
          refine E_ldc2 dX11_unwraps_12 coX11_176 ?_
          refine E_callSR dX11_unwraps_15 lkX11_63 (him) ?_
          refine E_if_ne 23 dX11_unwraps_18 (fun h18 => ?_) (fun h18 => ?_)
          · -- 23
            refine E_aload_n dX11_unwraps_23 rfl ?_
            refine E_iload_n dX11_unwraps_24 rfl ?_
            refine E_iload_n dX11_unwraps_25 rfl ?_
            refine E_callVR dX11_unwraps_26 lkX11_178 (Hp_get sk_203) (hfr) ?_
            refine E_if_ne 35 dX11_unwraps_29 (fun h29 => ?_) (fun h29 => ?_)
            · -- 35
              exact absurd rfl h29
            · -- 32
              refine E_bipush dX11_unwraps_32 ?_
              refine E_iret dX11_unwraps_34 ?_
              exact ⟨rfl, _, rfl, hM, fun _ _ => rfl⟩
          · -- 21
            first | exact absurd h4 (by decide) | exact absurd h18 (by decide)
    · rw [cif_neg q2] at him
      rw [show sUnwraps σ i m = (-1, σ) from cif_pos (fun h => q2 h.2)]
      refine E_iload_n dX11_unwraps_0 rfl ?_
      refine E_callSR dX11_unwraps_1 lkX11_147 (hsi) ?_
      refine E_if_eq 21 dX11_unwraps_4 (fun h4 => ?_) (fun h4 => ?_)
      · -- 21
        refine E_iconst dX11_unwraps_21 ?_
        refine E_iret dX11_unwraps_22 ?_
        exact ⟨rfl, _, rfl, hM, fun _ _ => rfl⟩
      · -- 7
        refine E_iload_n dX11_unwraps_7 rfl ?_
        refine E_i2l dX11_unwraps_8 ?_
        refine E_ldc2 dX11_unwraps_9 coX11_174 ?_
        refine E_ldc2 dX11_unwraps_12 coX11_176 ?_
        refine E_callSR dX11_unwraps_15 lkX11_63 (him) ?_
        refine E_if_ne 23 dX11_unwraps_18 (fun h18 => ?_) (fun h18 => ?_)
        · -- 23
          exact absurd rfl h18
        · -- 21
          refine E_iconst dX11_unwraps_21 ?_
          refine E_iret dX11_unwraps_22 ?_
          exact ⟨rfl, _, rfl, hM, fun _ _ => rfl⟩
  · rw [cif_neg q1] at hsi
    rw [show sUnwraps σ i m = (-1, σ) from cif_pos (fun h => q1 h.1)]
    refine E_iload_n dX11_unwraps_0 rfl ?_
    refine E_callSR dX11_unwraps_1 lkX11_147 (hsi) ?_
    refine E_if_eq 21 dX11_unwraps_4 (fun h4 => ?_) (fun h4 => ?_)
    · -- 21
      refine E_iconst dX11_unwraps_21 ?_
      refine E_iret dX11_unwraps_22 ?_
      exact ⟨rfl, _, rfl, hM, fun _ _ => rfl⟩
    · -- 7
      exact absurd rfl h4
end MUNW
