/-! FibredSpacesModel: maps, its loops -/
theorem wayM_per {m : Nat} {h : Int} : ∀ (l : List Fib) {w : Int → Int}, per m w → per m (wayM m h l w)
  | [], _, hw => hw
  | x :: t, _, hw => wayM_per t (gfP_per hw)
theorem gvN_per {m : Nat} : ∀ (n : Nat) {w : Int → Int}, per m w → per m (gvN m n w)
  | 0, _, hw => hw
  | n + 1, _, hw => gvN_per n (gvP_per hw)
def tH (s : Sp) (m : Nat) (h : Int) : Int := if s.1 = 0 then wayM m h s.2.2.2 (ind m) (s.2.2.1 * h) else if (2 * h) % m = 0 then gvN m s.2.1.toNat (wayM m h s.2.2.2 (ind m)) (s.2.2.1 * h) else 0
theorem tH_0 {s : Sp} (hok : spOk s) (h0 : s.1 = 0) {m : Nat} (hm : 0 < m) : mapS s m = sumN m (tH s m) * (m : Int) ^ (2 * s.2.1).toNat := by
  rw [map_0 hok h0 hm, Int.mul_comm]
  congr 1
  exact sumN_congr m (fun h _ => by unfold tH; rw [if_pos h0])
theorem tH_1 {s : Sp} (hok : spOk s) (h0 : ¬ s.1 = 0) {m : Nat} (hm : 0 < m) : mapS s m = sumN m (tH s m) := by
  have h1 : 1 ≤ s.2.1 := by have := hok.1; have := hok.2.1; omega
  rw [map_1 hok h0 hm]
  unfold nO
  rw [← sumN_mul]
  refine sumN_congr m (fun h _ => ?_)
  unfold tH
  rw [if_neg h0]
  split
  · rw [show s.2.1.toNat = (s.2.1 - 1).toNat + 1 by omega, gvN_succ (wayM_per _ (ind_per (Nat.dvd_refl m)))]
    rfl
  · rw [Int.mul_zero]
section MMAPSBY
variable {G : GT} {μ : Mem} {M : HV} {σ : St}
theorem mb_fib {i h kd ge sm : Int} {m : Nat} {s : Sp} {Q : QT} {W : Int → Int} (hi : isS i) (hm : 2 ≤ m ∧ m ≤ 12) (hs : RepN μ 204 (16 * i) s) (hok : spOk s) (hh : 0 ≤ h ∧ h < m) (hk : ∀ (μ2 : Mem) (w8 : Value), ThZ μ μ2 → Wys μ2 m W → E G mX11_mapsBy (Zq G mX11_mapsBy Q) 0 0 83 [.ref 203, vi i, vi (m : Int), vi kd, vi ge, vl sm, .retAddr 0, vi h, w8] [] (Hp μ2)) : ∀ (q p : List Fib) (w : Int → Int) (μ' : Mem), p ++ q = s.2.2.2 → wayM m h q w = W → per m w → Wys μ' m w → ThZ μ μ' →
    E G mX11_mapsBy (Zq G mX11_mapsBy Q) 0 0 57 [.ref 203, vi i, vi (m : Int), vi kd, vi ge, vl sm, .retAddr 0, vi h, vi (p.length : Int)] [] (Hp μ') := by
  have hb := hok.2.2.2.2.2.1
  intro q
  induction q with
  | nil =>
    intro p w μ' h1 h2 hp hw h4
    have hs' := hs.kept h4.now
    have hpl : p.length = s.2.2.2.length := by rw [← h1]; simp
    refine E_iload dX11_mapsBy_57 rfl ?_
    refine E_aload_n dX11_mapsBy_59 rfl ?_
    refine E_iload_n dX11_mapsBy_60 rfl ?_
    refine E_callVR dX11_mapsBy_61 lkX11_100 (Hp_get sk_203) (m_fibres hi hs') ?_
    refine E_icmp_ge 83 dX11_mapsBy_64 (fun h64 => ?_) (fun h64 => ?_)
    · -- 83
      exact hk μ' _ h4 (by rw [← h2]; exact hw)
    · -- 67
      exfalso; omega
  | cons x q ih =>
    intro p w μ' h1 h2 hp hw h4
    have hs' := hs.kept h4.now
    have hpl : p.length + 1 + q.length = s.2.2.2.length := by rw [← h1]; simp; omega
    have hx : s.2.2.2[p.length]? = some x := by rw [← h1]; simp
    refine E_iload dX11_mapsBy_57 rfl ?_
    refine E_aload_n dX11_mapsBy_59 rfl ?_
    refine E_iload_n dX11_mapsBy_60 rfl ?_
    refine E_callVR dX11_mapsBy_61 lkX11_100 (Hp_get sk_203) (m_fibres hi hs') ?_
    refine E_icmp_ge 83 dX11_mapsBy_64 (fun h64 => ?_) (fun h64 => ?_)
    · -- 83
      exfalso; omega
    · -- 67
      refine E_aload_n dX11_mapsBy_67 rfl ?_
      refine E_iload_n dX11_mapsBy_68 rfl ?_
      refine E_iload dX11_mapsBy_69 rfl ?_
      refine E_iload dX11_mapsBy_71 rfl ?_
      refine E_iload_n dX11_mapsBy_73 rfl ?_
      refine E_callVV dX11_mapsBy_74 lkX11_254 (Hp_get sk_203) (m_giveFibre (μ0 := μ) hi hs' hok (by omega) hx hm hp hw hh h4) ?_
      rintro μ2 ⟨g1, g2⟩
      have t := ih (p ++ [x]) (gfP m x.1 x.2 h w) μ2 (by rw [← h1]; simp) h2 (gfP_per hp) g2 g1
      rw [show ((p ++ [x]).length : Int) = (p.length : Int) + 1 by simp] at t
      refine E_iinc dX11_mapsBy_77 rfl ?_
      refine E_goto 57 dX11_mapsBy_80 ?_
      exact t
theorem mb_gen {i h ge sm : Int} {m : Nat} {Q : QT} {W : Int → Int} (hm : 2 ≤ m ∧ m ≤ 12) (hge : 0 ≤ ge ∧ ge ≤ 4) (hk : ∀ (μ2 : Mem) (w8 : Value), ThZ μ μ2 → Wys μ2 m W → E G mX11_mapsBy (Zq G mX11_mapsBy Q) 0 0 109 [.ref 203, vi i, vi (m : Int), vi 1, vi ge, vl sm, .retAddr 0, vi h, w8] [] (Hp μ2)) : ∀ (t k : Nat) (w : Int → Int) (μ' : Mem), (k : Int) + t = ge → gvN m t w = W → per m w → Wys μ' m w → ThZ μ μ' →
    E G mX11_mapsBy (Zq G mX11_mapsBy Q) 0 0 86 [.ref 203, vi i, vi (m : Int), vi 1, vi ge, vl sm, .retAddr 0, vi h, vi (k : Int)] [] (Hp μ')
  | 0, k, w, μ', h1, h2, hp, hw, h4 => by
    refine E_iload dX11_mapsBy_86 rfl ?_
    refine E_iload dX11_mapsBy_88 rfl ?_
    refine E_icmp_ge 109 dX11_mapsBy_90 (fun h90 => ?_) (fun h90 => ?_)
    · -- 109
      exact hk μ' _ h4 (by rw [← h2]; exact hw)
    · -- 93
      exfalso; omega
  | t + 1, k, w, μ', h1, h2, hp, hw, h4 => by
    have ih := mb_gen hm hge hk t (k + 1)
    rw [show ((k + 1 : Nat) : Int) = (k : Int) + 1 by omega] at ih
    refine E_iload dX11_mapsBy_86 rfl ?_
    refine E_iload dX11_mapsBy_88 rfl ?_
    refine E_icmp_ge 109 dX11_mapsBy_90 (fun h90 => ?_) (fun h90 => ?_)
    · -- 109
      exfalso; omega
    · -- 93
      refine E_iload_n dX11_mapsBy_93 rfl ?_
      refine E_iconst dX11_mapsBy_94 ?_
      refine E_icmp_ne 109 dX11_mapsBy_95 (fun h95 => ?_) (fun h95 => ?_)
      · -- 109
        exfalso; omega
      · -- 98
        refine E_aload_n dX11_mapsBy_98 rfl ?_
        refine E_iload_n dX11_mapsBy_99 rfl ?_
        refine E_callVV dX11_mapsBy_100 lkX11_258 (Hp_get sk_203) (m_giveTwice (μ0 := μ) hm hp hw h4) ?_
        rintro μ2 ⟨g1, g2⟩
        refine E_iinc dX11_mapsBy_103 rfl ?_
        refine E_goto 86 dX11_mapsBy_106 ?_
        exact ih (gvP m w) μ2 (by omega) h2 (gvP_per hp) g2 g1
theorem mb_tail {i h kd ge sm : Int} {m : Nat} {s : Sp} {Q : QT} {W : Int → Int} {w8 : Value} (hi : isS i) (hm : 2 ≤ m ∧ m ≤ 12) (hs : RepN μ 204 (16 * i) s) (hok : spOk s) (hh : 0 ≤ h ∧ h < m) (hp : per m W) (hW : Wys μ m W) (hk : E G mX11_mapsBy (Zq G mX11_mapsBy Q) 0 0 31 [.ref 203, vi i, vi (m : Int), vi kd, vi ge, vl (sm + W (s.2.2.1 * h)), .retAddr 0, vi (h + 1), w8] [] (Hp μ)) :
    E G mX11_mapsBy (Zq G mX11_mapsBy Q) 0 0 109 [.ref 203, vi i, vi (m : Int), vi kd, vi ge, vl sm, .retAddr 0, vi h, w8] [] (Hp μ) := by
  have j1 := hi.1
  have j2 := hi.2
  obtain ⟨o0, o1, o2, o3, o4, o5, o6⟩ := id hok
  have b1 : -11988 ≤ s.2.2.1 * h ∧ s.2.2.1 * h ≤ 11988 := by
    have t1 := Int.mul_le_mul_of_nonneg_right o3 hh.1
    have t2 := Int.mul_le_mul_of_nonneg_right o4 hh.1
    omega
  have r0 := Int.emod_nonneg (s.2.2.1 * h) (show (m : Int) ≠ 0 by omega)
  have r1 := Int.emod_lt_of_pos (s.2.2.1 * h) (show 0 < (m : Int) by omega)
  have hv : μ 214 (s.2.2.1 * h % m) = W (s.2.2.1 * h) := by rw [hW _ r0 r1, hp.mod]
  refine E_lload dX11_mapsBy_109 rfl ?_
  refine E_aload_n dX11_mapsBy_111 rfl ?_
  refine GX11_42 sk_203 dX11_mapsBy_112 ?_
  refine E_aload_n dX11_mapsBy_115 rfl ?_
  refine GX11_7 sk_203 dX11_mapsBy_116 ?_
  refine E_bipush dX11_mapsBy_119 ?_
  refine E_iload_n dX11_mapsBy_121 rfl ?_
  refine E_imul dX11_mapsBy_122 ?_
  refine E_iconst dX11_mapsBy_123 ?_
  refine E_iadd dX11_mapsBy_124 ?_
  refine H_iald sk_204 dX11_mapsBy_125 ?_
  rw [hs.2.2.1]
  refine E_iload dX11_mapsBy_126 rfl ?_
  refine E_imul dX11_mapsBy_128 ?_
  refine E_iload_n dX11_mapsBy_129 rfl ?_
  refine E_callSR dX11_mapsBy_130 lkX11_79 (m_left (x := s.2.2.1 * h) (z := m) (by omega) (by omega)) ?_
  refine H_lald sk_214 dX11_mapsBy_133 ?_
  rw [hv]
  refine E_ladd dX11_mapsBy_134 ?_
  refine E_lstore dX11_mapsBy_135 ?_
  refine E_iinc dX11_mapsBy_137 rfl ?_
  refine E_goto 31 dX11_mapsBy_140 ?_
  exact hk
theorem mb_h {i : Int} {m : Nat} {s : Sp} {Q : QT} (hi : isS i) (hm : 2 ≤ m ∧ m ≤ 12) (hs : RepN μ 204 (16 * i) s) (hok : spOk s) (hk : ∀ (μ2 : Mem) (w7 w8 : Value), ThZ μ μ2 → E G mX11_mapsBy (Zq G mX11_mapsBy Q) 0 0 143 [.ref 203, vi i, vi (m : Int), vi s.1, vi s.2.1, vl (sumN m (tH s m)), .retAddr 0, w7, w8] [] (Hp μ2)) : ∀ (t k : Nat) (μ' : Mem) (w8 : Value), k + t = m → ThZ μ μ' →
    E G mX11_mapsBy (Zq G mX11_mapsBy Q) 0 0 31 [.ref 203, vi i, vi (m : Int), vi s.1, vi s.2.1, vl (sumN k (tH s m)), .retAddr 0, vi (k : Int), w8] [] (Hp μ')
  | 0, k, μ', w8, e1, h1 => by
    have : k = m := by omega
    subst this
    refine E_iload dX11_mapsBy_31 rfl ?_
    refine E_iload_n dX11_mapsBy_33 rfl ?_
    refine E_icmp_ge 143 dX11_mapsBy_34 (fun h34 => ?_) (fun h34 => ?_)
    · -- 143
      exact hk μ' _ _ h1
    · -- 37
      exfalso; omega
  | t + 1, k, μ', w8, e1, h1 => by
    have ih := mb_h hi hm hs hok hk t (k + 1)
    rw [show ((k + 1 : Nat) : Int) = (k : Int) + 1 by omega] at ih
    have hh : 0 ≤ (k : Int) ∧ (k : Int) < m := by omega
    obtain ⟨o0, o1, o2, o3, o4, o5, o6⟩ := id hok
    have em : (2 * (k : Int)).tmod (m : Int) = (2 * (k : Int)) % m := Int.tmod_eq_emod_of_nonneg (by omega)
    have r0 := Int.emod_nonneg (2 * (k : Int)) (show (m : Int) ≠ 0 by omega)
    have r1 := Int.emod_lt_of_pos (2 * (k : Int)) (show 0 < (m : Int) by omega)
    have hpi := ind_per (Nat.dvd_refl m)
    have hpw := wayM_per (h := (k : Int)) s.2.2.2 hpi
    have beg : ∀ μ1 : Mem, (∀ j : Int, 0 ≤ j → j < 12 → μ1 214 j = if j = 0 then 1 else 0) → Wys μ1 m (ind m) := fun μ1 a1 j j0 j1 => by
      rw [a1 j j0 (by omega)]
      unfold ind
      by_cases e : j = 0
      · subst e; simp
      · rw [if_neg e, if_neg (fun q => ?_)]
        have := Int.le_of_dvd (by omega) q
        omega
    rcases o0 with o0 | o0
    · have eT : tH s m k = wayM m k s.2.2.2 (ind m) (s.2.2.1 * k) := if_pos o0
      have ih2 := fun μ2 w8 g => ih μ2 w8 (by omega) g
      rw [show sumN (k + 1) (tH s m) = sumN k (tH s m) + tH s m k from rfl, eT, o0] at ih2
      rw [o0]
      refine E_iload dX11_mapsBy_31 rfl ?_
      refine E_iload_n dX11_mapsBy_33 rfl ?_
      refine E_icmp_ge 143 dX11_mapsBy_34 (fun h34 => ?_) (fun h34 => ?_)
      · -- 143
        exfalso; omega
      · -- 37
        refine E_iload_n dX11_mapsBy_37 rfl ?_
        refine E_if_eq 50 dX11_mapsBy_38 (fun h38 => ?_) (fun h38 => ?_)
        · -- 50
          refine E_aload_n dX11_mapsBy_50 rfl ?_
          refine E_callVV dX11_mapsBy_51 lkX11_251 (Hp_get sk_203) (m_beginWays) ?_
          rintro μ1 ⟨a1, a2⟩
          have hz : ThZ μ μ1 := ⟨by rw [a2 215 (by decide)]; exact h1.1, fun q q1 q2 => by rw [a2 q q1, h1.2 q q1 q2]⟩
          refine E_iconst dX11_mapsBy_54 ?_
          refine E_istore dX11_mapsBy_55 ?_
          refine mb_fib (μ := μ) (W := wayM m k s.2.2.2 (ind m)) hi hm hs hok hh (fun μ2 w8 g1 g2 => ?_) s.2.2.2 [] (ind m) μ1 rfl rfl hpi (beg μ1 a1) hz
          refine E_iconst dX11_mapsBy_83 (E_istore dX11_mapsBy_84 ?_)
          have tl := fun w8 => mb_tail (G := G) (w8 := w8) hi hm (hs.kept g1.now) hok hh hpw g2 (ih2 μ2 w8 g1)
          refine E_iload dX11_mapsBy_86 rfl (E_iload dX11_mapsBy_88 rfl (E_icmp_ge 109 dX11_mapsBy_90 (fun _ => tl _) (fun _ => ?_)))
          exact E_iload_n dX11_mapsBy_93 rfl (E_iconst dX11_mapsBy_94 (E_icmp_ne 109 dX11_mapsBy_95 (fun _ => tl _) (fun q => absurd q (by decide))))
        · -- 41
          exact absurd rfl h38
    · by_cases q : (2 * (k : Int)) % m = 0
      · have eT : tH s m k = gvN m s.2.1.toNat (wayM m k s.2.2.2 (ind m)) (s.2.2.1 * k) := by unfold tH; rw [if_neg (by omega), if_pos q]
        have ih2 := fun μ2 w8 g => ih μ2 w8 (by omega) g
        rw [show sumN (k + 1) (tH s m) = sumN k (tH s m) + tH s m k from rfl, eT, o0] at ih2
        rw [o0]
        refine E_iload dX11_mapsBy_31 rfl ?_
        refine E_iload_n dX11_mapsBy_33 rfl ?_
        refine E_icmp_ge 143 dX11_mapsBy_34 (fun h34 => ?_) (fun h34 => ?_)
        · -- 143
          exfalso; omega
        · -- 37
          refine E_iload_n dX11_mapsBy_37 rfl ?_
          refine E_if_eq 50 dX11_mapsBy_38 (fun h38 => ?_) (fun h38 => ?_)
          · -- 50
            refine E_aload_n dX11_mapsBy_50 rfl ?_
            refine E_callVV dX11_mapsBy_51 lkX11_251 (Hp_get sk_203) (m_beginWays) ?_
            rintro μ1 ⟨a1, a2⟩
            have hz : ThZ μ μ1 := ⟨by rw [a2 215 (by decide)]; exact h1.1, fun q q1 q2 => by rw [a2 q q1, h1.2 q q1 q2]⟩
            refine E_iconst dX11_mapsBy_54 ?_
            refine E_istore dX11_mapsBy_55 ?_
            refine mb_fib (μ := μ) (W := wayM m k s.2.2.2 (ind m)) hi hm hs hok hh (fun μ2 w8 g1 g2 => ?_) s.2.2.2 [] (ind m) μ1 rfl rfl hpi (beg μ1 a1) hz
            refine E_iconst dX11_mapsBy_83 (E_istore dX11_mapsBy_84 ?_)
            refine mb_gen (μ := μ) (W := gvN m s.2.1.toNat (wayM m k s.2.2.2 (ind m))) hm (by omega) (fun μ3 w8 g3 g4 => ?_) s.2.1.toNat 0 (wayM m k s.2.2.2 (ind m)) μ2 (by omega) rfl hpw g2 g1
            exact mb_tail (G := G) (w8 := w8) hi hm (hs.kept g3.now) hok hh (gvN_per _ hpw) g4 (ih2 μ3 w8 g3)
          · -- 41
            refine E_iconst dX11_mapsBy_41 ?_
            refine E_iload dX11_mapsBy_42 rfl ?_
            refine E_imul dX11_mapsBy_44 ?_
            refine E_iload_n dX11_mapsBy_45 rfl ?_
            refine E_irem dX11_mapsBy_46 ?_
            rw [em]
            refine E_if_ne 137 dX11_mapsBy_47 (fun h47 => ?_) (fun h47 => ?_)
            · -- 137
              exfalso; omega
            · -- 50
              refine E_aload_n dX11_mapsBy_50 rfl ?_
              refine E_callVV dX11_mapsBy_51 lkX11_251 (Hp_get sk_203) (m_beginWays) ?_
              rintro μ1 ⟨a1, a2⟩
              have hz : ThZ μ μ1 := ⟨by rw [a2 215 (by decide)]; exact h1.1, fun q q1 q2 => by rw [a2 q q1, h1.2 q q1 q2]⟩
              refine E_iconst dX11_mapsBy_54 ?_
              refine E_istore dX11_mapsBy_55 ?_
              refine mb_fib (μ := μ) (W := wayM m k s.2.2.2 (ind m)) hi hm hs hok hh (fun μ2 w8 g1 g2 => ?_) s.2.2.2 [] (ind m) μ1 rfl rfl hpi (beg μ1 a1) hz
              refine E_iconst dX11_mapsBy_83 (E_istore dX11_mapsBy_84 ?_)
              refine mb_gen (μ := μ) (W := gvN m s.2.1.toNat (wayM m k s.2.2.2 (ind m))) hm (by omega) (fun μ3 w8 g3 g4 => ?_) s.2.1.toNat 0 (wayM m k s.2.2.2 (ind m)) μ2 (by omega) rfl hpw g2 g1
              exact mb_tail (G := G) (w8 := w8) hi hm (hs.kept g3.now) hok hh (gvN_per _ hpw) g4 (ih2 μ3 w8 g3)
      · have eT : tH s m k = 0 := by unfold tH; rw [if_neg (by omega), if_neg q]
        have ih2 := fun μ2 w8 g => ih μ2 w8 (by omega) g
        rw [show sumN (k + 1) (tH s m) = sumN k (tH s m) + tH s m k from rfl, eT, o0, Int.add_zero] at ih2
        rw [o0]
        refine E_iload dX11_mapsBy_31 rfl ?_
        refine E_iload_n dX11_mapsBy_33 rfl ?_
        refine E_icmp_ge 143 dX11_mapsBy_34 (fun h34 => ?_) (fun h34 => ?_)
        · -- 143
          exfalso; omega
        · -- 37
          refine E_iload_n dX11_mapsBy_37 rfl ?_
          refine E_if_eq 50 dX11_mapsBy_38 (fun h38 => ?_) (fun h38 => ?_)
          · -- 50
            first | (exfalso; omega) | exact absurd h38 (by decide)
          · -- 41
            refine E_iconst dX11_mapsBy_41 ?_
            refine E_iload dX11_mapsBy_42 rfl ?_
            refine E_imul dX11_mapsBy_44 ?_
            refine E_iload_n dX11_mapsBy_45 rfl ?_
            refine E_irem dX11_mapsBy_46 ?_
            rw [em]
            refine E_if_ne 137 dX11_mapsBy_47 (fun h47 => ?_) (fun h47 => ?_)
            · -- 137
              refine E_iinc dX11_mapsBy_137 rfl ?_
              refine E_goto 31 dX11_mapsBy_140 ?_
              exact ih2 μ' _ h1
            · -- 50
              first | (exfalso; omega) | exact absurd h38 (by decide)
theorem mb_pow {i ge : Int} {m : Nat} {P : Mem → Prop} {w8 : Value} (hm : 2 ≤ m ∧ m ≤ 12) (hge : 0 ≤ ge ∧ ge ≤ 4) (hP : P μ) (R : Int) : ∀ (t k : Nat) (sm : Int), (k : Int) + t = 2 * ge → sm * (m : Int) ^ t = R →
    E G mX11_mapsBy (Zq G mX11_mapsBy (V1 (vl R) P)) 0 0 146 [.ref 203, vi i, vi (m : Int), vi 0, vi ge, vl sm, .retAddr 0, vi (k : Int), w8] [] (Hp μ)
  | 0, k, sm, h1, h2 => by
    refine E_iload dX11_mapsBy_146 rfl ?_
    refine E_iconst dX11_mapsBy_148 ?_
    refine E_iload dX11_mapsBy_149 rfl ?_
    refine E_imul dX11_mapsBy_151 ?_
    refine E_icmp_ge 172 dX11_mapsBy_152 (fun h152 => ?_) (fun h152 => ?_)
    · -- 172
      refine E_lload dX11_mapsBy_172 rfl ?_
      refine E_lret dX11_mapsBy_174 ?_
      exact ⟨by rw [← h2, Int.pow_zero, Int.mul_one], _, rfl, hP⟩
    · -- 155
      exfalso; omega
  | t + 1, k, sm, h1, h2 => by
    have ih := mb_pow (i := i) (w8 := w8) hm hge hP R t (k + 1) (sm * m) (by omega) (by rw [← h2, Int.pow_succ]; grind)
    rw [show ((k + 1 : Nat) : Int) = (k : Int) + 1 by omega] at ih
    refine E_iload dX11_mapsBy_146 rfl ?_
    refine E_iconst dX11_mapsBy_148 ?_
    refine E_iload dX11_mapsBy_149 rfl ?_
    refine E_imul dX11_mapsBy_151 ?_
    refine E_icmp_ge 172 dX11_mapsBy_152 (fun h152 => ?_) (fun h152 => ?_)
    · -- 172
      first | (exfalso; omega) | exact absurd rfl h156
    · -- 155
      refine E_iload_n dX11_mapsBy_155 rfl ?_
      refine E_if_ne 172 dX11_mapsBy_156 (fun h156 => ?_) (fun h156 => ?_)
      · -- 172
        first | (exfalso; omega) | exact absurd rfl h156
      · -- 159
        refine E_lload dX11_mapsBy_159 rfl ?_
        refine E_iload_n dX11_mapsBy_161 rfl ?_
        refine E_i2l dX11_mapsBy_162 ?_
        refine E_lmul dX11_mapsBy_163 ?_
        refine E_lstore dX11_mapsBy_164 ?_
        refine E_iinc dX11_mapsBy_166 rfl ?_
        refine E_goto 146 dX11_mapsBy_169 ?_
        exact ih
theorem m_mapsBy {i : Int} {m : Nat} {s : Sp} (hi : isS i) (hm : 2 ≤ m ∧ m ≤ 12) (hs : RepN μ 204 (16 * i) s) (hok : spOk s) (hz : ∀ j : Int, 0 ≤ j → j < 12 → μ 215 j = 0) : Ctr G mX11_mapsBy [.ref 203, vi i, vi (m : Int)] (Hp μ) (V1 (vl (mapS s m)) (ThZ μ)) := by
  refine Ctr.of ?_
  have j1 := hi.1
  have j2 := hi.2
  obtain ⟨o0, o1, o2, o3, o4, o5, o6⟩ := id hok
  refine E_aload_n dX11_mapsBy_0 rfl ?_
  refine GX11_7 sk_203 dX11_mapsBy_1 ?_
  refine E_bipush dX11_mapsBy_4 ?_
  refine E_iload_n dX11_mapsBy_6 rfl ?_
  refine E_imul dX11_mapsBy_7 ?_
  refine E_iconst dX11_mapsBy_8 ?_
  refine E_iadd dX11_mapsBy_9 ?_
  rw [Int.add_zero]
  refine H_iald sk_204 dX11_mapsBy_10 ?_
  rw [hs.1]
  refine E_istore_n dX11_mapsBy_11 ?_
  refine E_aload_n dX11_mapsBy_12 rfl ?_
  refine GX11_7 sk_203 dX11_mapsBy_13 ?_
  refine E_bipush dX11_mapsBy_16 ?_
  refine E_iload_n dX11_mapsBy_18 rfl ?_
  refine E_imul dX11_mapsBy_19 ?_
  refine E_iconst dX11_mapsBy_20 ?_
  refine E_iadd dX11_mapsBy_21 ?_
  refine H_iald sk_204 dX11_mapsBy_22 ?_
  rw [hs.2.1]
  refine E_istore dX11_mapsBy_23 ?_
  refine E_lconst0 dX11_mapsBy_25 ?_
  refine E_lstore dX11_mapsBy_26 ?_
  refine E_iconst dX11_mapsBy_28 ?_
  refine E_istore dX11_mapsBy_29 ?_
  refine mb_h (μ := μ) hi hm hs hok (fun μ2 w7 w8 g => ?_) m 0 μ _ (by omega) ⟨hz, fun _ _ _ => rfl⟩
  refine E_iconst dX11_mapsBy_143 (E_istore dX11_mapsBy_144 ?_)
  rcases o0 with h0 | h0
  · rw [tH_0 hok h0 (by omega), h0]
    exact mb_pow hm (by omega) g _ (2 * s.2.1).toNat 0 _ (by omega) rfl
  · rw [tH_1 hok (by omega) (by omega), h0]
    refine E_iload dX11_mapsBy_146 rfl (E_iconst dX11_mapsBy_148 (E_iload dX11_mapsBy_149 rfl (E_imul dX11_mapsBy_151 (E_icmp_ge 172 dX11_mapsBy_152 (fun q => by exfalso; omega) (fun _ => ?_)))))
    refine E_iload_n dX11_mapsBy_155 rfl (E_if_ne 172 dX11_mapsBy_156 (fun _ => ?_) (fun q => absurd q (by decide)))
    exact E_lload dX11_mapsBy_172 rfl (E_lret dX11_mapsBy_174 ⟨rfl, _, rfl, g⟩)
theorem m_maps {i m : Int} (hi : -2147483648 ≤ i ∧ i < 2147483648) (hm : -2147483648 ≤ m ∧ m < 2147483648) (hM : RepM μ σ) (hok : stOk σ) : Ctr G mX11_maps [.ref 203, vi i, vi m] (Hp μ) (NL μ (aMaps σ i m, σ)) := by
  refine Ctr.of ?_
  have hsi := m_isSpace (G := G) (M := Hp μ) hi
  have hin := m_in (G := G) (M := Hp μ) (v := m) (lo := 2) (hi := 12) (by omega) (by omega) (by omega)
  by_cases q1 : isS i
  · rw [cif_pos q1] at hsi
    by_cases q2 : 2 ≤ m ∧ m ≤ 12
    · rw [cif_pos q2] at hin
      rw [show aMaps σ i m = _ from cif_pos ⟨q1, q2⟩]
      have hn := rn_at q1 hM.1
      have ho := ok_at q1 hok.1
      obtain ⟨n, rfl⟩ : ∃ n : Nat, m = n := ⟨m.toNat, by omega⟩
      refine E_iload_n dX11_maps_0 rfl ?_
      refine E_callSR dX11_maps_1 lkX11_147 (hsi) ?_
      refine E_if_eq 21 dX11_maps_4 (fun h4 => ?_) (fun h4 => ?_)
      · -- 21
        first | exact absurd h4 (by decide) | exact absurd h18 (by decide)
      · -- 7
        refine E_iload_n dX11_maps_7 rfl ?_
        refine E_i2l dX11_maps_8 ?_
        refine E_ldc2 dX11_maps_9 coX11_174 ?_
        refine E_ldc2 dX11_maps_12 coX11_245 ?_
        refine E_callSR dX11_maps_15 lkX11_63 (hin) ?_
        refine E_if_ne 25 dX11_maps_18 (fun h18 => ?_) (fun h18 => ?_)
        · -- 25
          refine E_aload_n dX11_maps_25 rfl ?_
          refine E_iload_n dX11_maps_26 rfl ?_
          refine E_iload_n dX11_maps_27 rfl ?_
          refine E_callVW dX11_maps_28 lkX11_247 (Hp_get sk_203) (m_mapsBy (m := n) q1 (by omega) hn ho hM.2.2.2.2.2) ?_
          rintro μ1 g
          refine E_lret dX11_maps_31 ?_
          exact ⟨rfl, _, rfl, g.m hM, fun q hq => g.2 q (by omega) (by omega)⟩
        · -- 21
          first | exact absurd h4 (by decide) | exact absurd h18 (by decide)
    · rw [cif_neg q2] at hin
      rw [show aMaps σ i m = -1 from cif_neg (fun h => q2 h.2)]
      refine E_iload_n dX11_maps_0 rfl ?_
      refine E_callSR dX11_maps_1 lkX11_147 (hsi) ?_
      refine E_if_eq 21 dX11_maps_4 (fun h4 => ?_) (fun h4 => ?_)
      · -- 21
        refine E_ldc2 dX11_maps_21 coX11_229 ?_
        refine E_lret dX11_maps_24 ?_
        exact ⟨rfl, _, rfl, hM, fun _ _ => rfl⟩
      · -- 7
        refine E_iload_n dX11_maps_7 rfl ?_
        refine E_i2l dX11_maps_8 ?_
        refine E_ldc2 dX11_maps_9 coX11_174 ?_
        refine E_ldc2 dX11_maps_12 coX11_245 ?_
        refine E_callSR dX11_maps_15 lkX11_63 (hin) ?_
        refine E_if_ne 25 dX11_maps_18 (fun h18 => ?_) (fun h18 => ?_)
        · -- 25
          exact absurd rfl h18
        · -- 21
          refine E_ldc2 dX11_maps_21 coX11_229 ?_
          refine E_lret dX11_maps_24 ?_
          exact ⟨rfl, _, rfl, hM, fun _ _ => rfl⟩
  · rw [cif_neg q1] at hsi
    rw [show aMaps σ i m = -1 from cif_neg (fun h => q1 h.1)]
    refine E_iload_n dX11_maps_0 rfl ?_
    refine E_callSR dX11_maps_1 lkX11_147 (hsi) ?_
    refine E_if_eq 21 dX11_maps_4 (fun h4 => ?_) (fun h4 => ?_)
    · -- 21
      refine E_ldc2 dX11_maps_21 coX11_229 ?_
      refine E_lret dX11_maps_24 ?_
      exact ⟨rfl, _, rfl, hM, fun _ _ => rfl⟩
    · -- 7
      exact absurd rfl h4
end MMAPSBY
