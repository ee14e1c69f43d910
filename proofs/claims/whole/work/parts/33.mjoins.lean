/-! FibredSpacesModel: joins, drills -/
section MJOINS
variable {G : GT} {μ : Mem} {M : HV} {σ : St}
def remK (k n : Nat) (q : List Fib) : List Fib := if n ≤ k then q.eraseIdx (k - n) else q
theorem drill_loop {i : Int} {k : Nat} {s : Sp} {Q : QT} (hi : isS i) (hs : RepN μ 204 (16 * i) s) (hok : spOk s) (hk : ∀ (d : Sp) (μ2 : Mem) (w : Value), d = putAll (s.1, s.2.1, s.2.2.1, []) (s.2.2.2.eraseIdx k) 1 → RepB μ2 d → OffB μ μ2 → E G mX11_drills (Zq G mX11_drills Q) 0 0 101 [.ref 203, vi i, vi (k : Int), w] [] (Hp μ2)) (hk6 : k < 6) : ∀ (q p : List Fib) (d : Sp) (μ' : Mem), p ++ q = s.2.2.2 → putAll d (remK k p.length q) 1 = putAll (s.1, s.2.1, s.2.2.1, []) (s.2.2.2.eraseIdx k) 1 → RepB μ' d → (∀ y ∈ d.2.2.2, smF y) → d.2.2.2.length ≤ p.length → OffB μ μ' →
    E G mX11_drills (Zq G mX11_drills Q) 0 0 65 [.ref 203, vi i, vi (k : Int), vi (p.length : Int)] [] (Hp μ') := by
  have hb := hok.2.2.2.2.2.1
  have j1 := hi.1
  have j2 := hi.2
  intro q
  induction q with
  | nil =>
    intro p d μ' h1 he h2 h3 hl h4
    have hs' := hs.kept h4.now
    have hp : p.length = s.2.2.2.length := by rw [← h1]; simp
    have he2 : d = putAll (s.1, s.2.1, s.2.2.1, []) (s.2.2.2.eraseIdx k) 1 := by
      rw [← he]; unfold remK; split <;> rfl
    refine E_iload_n dX11_drills_65 rfl ?_
    refine E_aload_n dX11_drills_66 rfl ?_
    refine E_iload_n dX11_drills_67 rfl ?_
    refine E_callVR dX11_drills_68 lkX11_100 (Hp_get sk_203) (m_fibres hi hs') ?_
    refine E_icmp_ge 101 dX11_drills_71 (fun h71 => ?_) (fun h71 => ?_)
    · -- 101
      exact hk d μ' _ he2 h2 h4
    · -- 74
      exfalso; omega
  | cons x q ih =>
    intro p d μ' h1 he h2 h3 hl h4
    have hs' := hs.kept h4.now
    have hp : p.length + 1 + q.length = s.2.2.2.length := by rw [← h1]; simp; omega
    obtain ⟨x1, x2, x3, x4, -⟩ := hok.2.2.2.2.2.2 x (by rw [← h1]; simp)
    have hat : s.2.2.2[p.length]? = some x := by rw [← h1]; simp
    have hl1 : (p ++ [x]).length = p.length + 1 := by simp
    by_cases e : p.length = k
    · have he2 : putAll d (remK k (p ++ [x]).length q) 1 = putAll (s.1, s.2.1, s.2.2.1, []) (s.2.2.2.eraseIdx k) 1 := by
        rw [← he]
        unfold remK
        rw [if_neg (by omega), if_pos (by omega), show k - p.length = 0 by omega]
        rfl
      have t := ih (p ++ [x]) d μ' (by rw [← h1]; simp) he2 h2 h3 (by omega) h4
      rw [show ((p ++ [x]).length : Int) = (p.length : Int) + 1 by simp] at t
      refine E_iload_n dX11_drills_65 rfl ?_
      refine E_aload_n dX11_drills_66 rfl ?_
      refine E_iload_n dX11_drills_67 rfl ?_
      refine E_callVR dX11_drills_68 lkX11_100 (Hp_get sk_203) (m_fibres hi hs') ?_
      refine E_icmp_ge 101 dX11_drills_71 (fun h71 => ?_) (fun h71 => ?_)
      · -- 101
        exfalso; omega
      · -- 74
        refine E_iload_n dX11_drills_74 rfl ?_
        refine E_iload_n dX11_drills_75 rfl ?_
        refine E_icmp_eq 95 dX11_drills_76 (fun h76 => ?_) (fun h76 => ?_)
        · -- 95
          refine E_iinc dX11_drills_95 rfl ?_
          refine E_goto 65 dX11_drills_98 ?_
          exact t
        · -- 79
          exfalso; omega
    · have he2 : putAll (put d x.1 x.2) (remK k (p ++ [x]).length q) 1 = putAll (s.1, s.2.1, s.2.2.1, []) (s.2.2.2.eraseIdx k) 1 := by
        rw [← he]
        unfold remK
        by_cases e2 : p.length ≤ k
        · rw [if_pos (by omega), if_pos e2, show k - p.length = (k - (p ++ [x]).length) + 1 by omega, List.eraseIdx_cons_succ]
          rw [show putAll d (x :: q.eraseIdx (k - (p ++ [x]).length)) 1 = putAll (put d x.1 (x.2 * 1)) (q.eraseIdx (k - (p ++ [x]).length)) 1 from rfl, Int.mul_one]
        · rw [if_neg (by omega), if_neg e2]
          rw [show putAll d (x :: q) 1 = putAll (put d x.1 (x.2 * 1)) q 1 from rfl, Int.mul_one]
      refine E_iload_n dX11_drills_65 rfl ?_
      refine E_aload_n dX11_drills_66 rfl ?_
      refine E_iload_n dX11_drills_67 rfl ?_
      refine E_callVR dX11_drills_68 lkX11_100 (Hp_get sk_203) (m_fibres hi hs') ?_
      refine E_icmp_ge 101 dX11_drills_71 (fun h71 => ?_) (fun h71 => ?_)
      · -- 101
        exfalso; omega
      · -- 74
        refine E_iload_n dX11_drills_74 rfl ?_
        refine E_iload_n dX11_drills_75 rfl ?_
        refine E_icmp_eq 95 dX11_drills_76 (fun h76 => ?_) (fun h76 => ?_)
        · -- 95
          first | (exfalso; omega) | exact E_iinc dX11_drills_95 rfl (E_goto 65 dX11_drills_98 t)
        · -- 79
          refine E_aload_n dX11_drills_79 rfl ?_
          refine E_aload_n dX11_drills_80 rfl ?_
          refine E_iload_n dX11_drills_81 rfl ?_
          refine E_iload_n dX11_drills_82 rfl ?_
          refine E_callVR dX11_drills_83 lkX11_90 (Hp_get sk_203) (m_a hi hs' (by omega) hat) ?_
          refine E_aload_n dX11_drills_86 rfl ?_
          refine E_iload_n dX11_drills_87 rfl ?_
          refine E_iload_n dX11_drills_88 rfl ?_
          refine E_callVR dX11_drills_89 lkX11_93 (Hp_get sk_203) (m_b hi hs' (by omega) hat) ?_
          refine E_callVV dX11_drills_92 lkX11_104 (Hp_get sk_203) (m_add (a := x.1) (b := x.2) h2 (by omega) (by omega) h3 (by omega)) ?_
          rintro μ2 ⟨g1, g2⟩
          have t := ih (p ++ [x]) _ μ2 (by rw [← h1]; simp) he2 g1 (smF_put (by omega) h3) (by have := putm_len (d := d) (a := x.1) (b := x.2); omega) (h4.tr g2)
          rw [show ((p ++ [x]).length : Int) = (p.length : Int) + 1 by simp] at t
          first | (exfalso; omega) | exact E_iinc dX11_drills_95 rfl (E_goto 65 dX11_drills_98 t)
theorem m_drills {i k : Int} (hi : -2147483648 ≤ i ∧ i < 2147483648) (hk : -2147483648 ≤ k ∧ k < 2147483648) (hM : RepM μ σ) (hok : stOk σ) : Ctr G mX11_drills [.ref 203, vi i, vi k] (Hp μ) (NQ μ (sDrills σ i k)) := by
  refine Ctr.of ?_
  have hsi := m_isSpace (G := G) (M := Hp μ) hi
  by_cases q1 : isS i
  · rw [cif_pos q1] at hsi
    have j1 := q1.1
    have j2 := q1.2
    have hn := rn_at q1 hM.1
    have ho := ok_at q1 hok.1
    obtain ⟨o0, o1, o2, o3, o4, o5, o6⟩ := id ho
    have hin := m_in (G := G) (M := Hp μ) (v := k) (lo := 0) (hi := ((σ.1 i.toNat).2.2.2.length : Int) - 1) (by omega) (by omega) (by omega)
    by_cases q2 : 0 ≤ k ∧ k ≤ ((σ.1 i.toNat).2.2.2.length : Int) - 1
    · rw [cif_pos q2] at hin
      rw [show sDrills σ i k = _ from cif_neg (not_not_intro ⟨q1, q2.1, by omega⟩)]
      have hsh := putAll_sh (m := 1) (by omega) ((σ.1 i.toNat).2.2.2.eraseIdx k.toNat) ((σ.1 i.toNat).1, (σ.1 i.toNat).2.1, (σ.1 i.toNat).2.2.1, []) (fun x hx => o6 x (List.mem_of_mem_eraseIdx hx))
      have hle : ((σ.1 i.toNat).2.2.2.eraseIdx k.toNat).length ≤ 6 := Nat.le_trans (List.length_eraseIdx_le _ _) o5
      have hpl := putAll_len (m := 1) ((σ.1 i.toNat).2.2.2.eraseIdx k.toNat) ((σ.1 i.toNat).1, (σ.1 i.toNat).2.1, (σ.1 i.toNat).2.2.1, [])
      simp only [List.length_nil] at hpl hsh
      have ek : vi k = vi ((k.toNat : Nat) : Int) := by rw [show ((k.toNat : Nat) : Int) = k by omega]
      refine E_iload_n dX11_drills_0 rfl ?_
      refine E_callSR dX11_drills_1 lkX11_147 (hsi) ?_
      refine E_if_eq 24 dX11_drills_4 (fun h4 => ?_) (fun h4 => ?_)
      · -- 24
        first | exact absurd h4 (by decide) | exact absurd h21 (by decide)
      · -- 7
        refine E_iload_n dX11_drills_7 rfl ?_
        refine E_i2l dX11_drills_8 ?_
        refine E_lconst0 dX11_drills_9 ?_
        refine E_aload_n dX11_drills_10 rfl ?_
        refine E_iload_n dX11_drills_11 rfl ?_
        refine E_callVR dX11_drills_12 lkX11_100 (Hp_get sk_203) (m_fibres q1 hn) ?_
        refine E_iconst dX11_drills_15 ?_
        refine E_isub dX11_drills_16 ?_
        refine E_i2l dX11_drills_17 ?_
        refine E_callSR dX11_drills_18 lkX11_63 (hin) ?_
        refine E_if_ne 26 dX11_drills_21 (fun h21 => ?_) (fun h21 => ?_)
        · -- 26
          refine E_aload_n dX11_drills_26 rfl ?_
          refine E_aload_n dX11_drills_27 rfl ?_
          refine GX11_7 sk_203 dX11_drills_28 ?_
          refine E_bipush dX11_drills_31 ?_
          refine E_iload_n dX11_drills_33 rfl ?_
          refine E_imul dX11_drills_34 ?_
          refine E_iconst dX11_drills_35 ?_
          refine E_iadd dX11_drills_36 ?_
          refine H_iald sk_204 dX11_drills_37 ?_
          rw [Int.add_zero, hn.1]
          refine E_aload_n dX11_drills_38 rfl ?_
          refine GX11_7 sk_203 dX11_drills_39 ?_
          refine E_bipush dX11_drills_42 ?_
          refine E_iload_n dX11_drills_44 rfl ?_
          refine E_imul dX11_drills_45 ?_
          refine E_iconst dX11_drills_46 ?_
          refine E_iadd dX11_drills_47 ?_
          refine H_iald sk_204 dX11_drills_48 ?_
          rw [hn.2.1]
          refine E_aload_n dX11_drills_49 rfl ?_
          refine GX11_7 sk_203 dX11_drills_50 ?_
          refine E_bipush dX11_drills_53 ?_
          refine E_iload_n dX11_drills_55 rfl ?_
          refine E_imul dX11_drills_56 ?_
          refine E_iconst dX11_drills_57 ?_
          refine E_iadd dX11_drills_58 ?_
          refine H_iald sk_204 dX11_drills_59 ?_
          rw [hn.2.2.1]
          refine E_callVV dX11_drills_60 lkX11_96 (Hp_get sk_203) (m_begin) ?_
          rintro μ1 ⟨a1, a2⟩
          refine E_iconst dX11_drills_63 ?_
          refine E_istore_n dX11_drills_64 ?_
          rw [ek]
          refine drill_loop (μ := μ) (k := k.toNat) q1 hn ho (fun d μ2 w e g1 g2 => ?_) (by omega) (σ.1 i.toNat).2.2.2 [] _ μ1 rfl (by unfold remK; rw [if_pos (by simp)]; rfl) a1 (fun y hy => by simp at hy) (by simp) a2
          rw [← e]
          refine layN hM hok q1 g1 ?_ ?_ ?_ g2 dX11_drills_101 dX11_drills_102 dX11_drills_103 dX11_drills_104 dX11_drills_107 dX11_drills_110
          · rw [e]; omega
          · rw [e]; omega
          · rw [e]; omega
        · -- 24
          first | exact absurd h4 (by decide) | exact absurd h21 (by decide)
    · rw [cif_neg q2] at hin
      rw [show sDrills σ i k = (-1, σ) from cif_pos (fun h => q2 ⟨h.2.1, by have := h.2.2; omega⟩)]
      refine E_iload_n dX11_drills_0 rfl ?_
      refine E_callSR dX11_drills_1 lkX11_147 (hsi) ?_
      refine E_if_eq 24 dX11_drills_4 (fun h4 => ?_) (fun h4 => ?_)
      · -- 24
        refine E_iconst dX11_drills_24 ?_
        refine E_iret dX11_drills_25 ?_
        exact ⟨rfl, _, rfl, hM, fun _ _ => rfl⟩
      · -- 7
        refine E_iload_n dX11_drills_7 rfl ?_
        refine E_i2l dX11_drills_8 ?_
        refine E_lconst0 dX11_drills_9 ?_
        refine E_aload_n dX11_drills_10 rfl ?_
        refine E_iload_n dX11_drills_11 rfl ?_
        refine E_callVR dX11_drills_12 lkX11_100 (Hp_get sk_203) (m_fibres q1 hn) ?_
        refine E_iconst dX11_drills_15 ?_
        refine E_isub dX11_drills_16 ?_
        refine E_i2l dX11_drills_17 ?_
        refine E_callSR dX11_drills_18 lkX11_63 (hin) ?_
        refine E_if_ne 26 dX11_drills_21 (fun h21 => ?_) (fun h21 => ?_)
        · -- 26
          exact absurd rfl h21
        · -- 24
          refine E_iconst dX11_drills_24 ?_
          refine E_iret dX11_drills_25 ?_
          exact ⟨rfl, _, rfl, hM, fun _ _ => rfl⟩
  · rw [cif_neg q1] at hsi
    rw [show sDrills σ i k = (-1, σ) from cif_pos (fun h => q1 h.1)]
    refine E_iload_n dX11_drills_0 rfl ?_
    refine E_callSR dX11_drills_1 lkX11_147 (hsi) ?_
    refine E_if_eq 24 dX11_drills_4 (fun h4 => ?_) (fun h4 => ?_)
    · -- 24
      refine E_iconst dX11_drills_24 ?_
      refine E_iret dX11_drills_25 ?_
      exact ⟨rfl, _, rfl, hM, fun _ _ => rfl⟩
    · -- 7
      exact absurd rfl h4
end MJOINS
