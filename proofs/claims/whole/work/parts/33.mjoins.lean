/-! FibredSpacesModel: joins, drills -/
section MJOINS
variable {G : GT} {μ : Mem} {M : HV} {σ : St}
def remK (k n : Nat) (q : List Fib) : List Fib := if n ≤ k then q.eraseIdx (k - n) else q
theorem drill_loop {i : Int} {k : Nat} {s : Sp} {Q : QT} (hi : isS i) (hs : RepN μ 204 (16 * i) s) (hok : spOk s) (hk : ∀ (d : Sp) (μ2 : Mem) (w : Value), d = putAll (s.1, s.2.1, s.2.2.1, []) (s.2.2.2.eraseIdx k) 1 → RepB μ2 d → OffB μ μ2 → E G mX11_drills (Zq G mX11_drills Q) 0 0 101 [.ref 203, vi i, vi (k : Int), w] [] (Hp μ2)) (hk6 : k < 6) : ∀ (q p : List Fib) (d : Sp) (μ' : Mem), p ++ q = s.2.2.2 → putAll d (remK k p.length q) 1 = putAll (s.1, s.2.1, s.2.2.1, []) (s.2.2.2.eraseIdx k) 1 → RepB μ' d → (∀ y ∈ d.2.2.2, smF y) → d.2.2.2.length ≤ p.length → OffB μ μ' →
    E G mX11_drills (Zq G mX11_drills Q) 0 0 65 [.ref 203, vi i, vi (k : Int), vi (p.length : Int)] [] (Hp μ') := by
  have hb := hok.2.2.2.2.2.1
  have j1 := hi.1
  have j2 := hi.2
  intro q
  induction q with
  | nil =>
    intro p d μ' h1 he h2 h3 hl h4
    have hs' := hs.kept h4.now
    have hp : p.length = s.2.2.2.length := by rw [← h1]; simp
    have he2 : d = putAll (s.1, s.2.1, s.2.2.1, []) (s.2.2.2.eraseIdx k) 1 := by
      rw [← he]; unfold remK; split <;> rfl
    refine E_iload_n dX11_drills_65 rfl ?_
    refine E_aload_n dX11_drills_66 rfl ?_
    refine E_iload_n dX11_drills_67 rfl ?_
    refine E_callVR dX11_drills_68 lkX11_100 (Hp_get sk_203) (m_fibres hi hs') ?_
    refine E_icmp_ge 101 dX11_drills_71 (fun h71 => ?_) (fun h71 => ?_)
    · -- 101
      exact hk d μ' _ he2 h2 h4
    · -- 74
      exfalso; omega
  | cons x q ih =>
    intro p d μ' h1 he h2 h3 hl h4
    have hs' := hs.kept h4.now
    have hp : p.length + 1 + q.length = s.2.2.2.length := by rw [← h1]; simp; omega
    obtain ⟨x1, x2, x3, x4, -⟩ := hok.2.2.2.2.2.2 x (by rw [← h1]; simp)
    have hat : s.2.2.2[p.length]? = some x := by rw [← h1]; simp
    have hl1 : (p ++ [x]).length = p.length + 1 := by simp
    by_cases e : p.length = k
    · have he2 : putAll d (remK k (p ++ [x]).length q) 1 = putAll (s.1, s.2.1, s.2.2.1, []) (s.2.2.2.eraseIdx k) 1 := by
        rw [← he]
        unfold remK
        rw [if_neg (by omega), if_pos (by omega), show k - p.length = 0 by omega]
        rfl
      have t := ih (p ++ [x]) d μ' (by rw [← h1]; simp) he2 h2 h3 (by omega) h4
      rw [show ((p ++ [x]).length : Int) = (p.length : Int) + 1 by simp] at t
      refine E_iload_n dX11_drills_65 rfl ?_
      refine E_aload_n dX11_drills_66 rfl ?_
      refine E_iload_n dX11_drills_67 rfl ?_
      refine E_callVR dX11_drills_68 lkX11_100 (Hp_get sk_203) (m_fibres hi hs') ?_
      refine E_icmp_ge 101 dX11_drills_71 (fun h71 => ?_) (fun h71 => ?_)
      · -- 101
        exfalso; omega
      · -- 74
        refine E_iload_n dX11_drills_74 rfl ?_
        refine E_iload_n dX11_drills_75 rfl ?_
        refine E_icmp_eq 95 dX11_drills_76 (fun h76 => ?_) (fun h76 => ?_)
        · -- 95
          refine E_iinc dX11_drills_95 rfl ?_
          refine E_goto 65 dX11_drills_98 ?_
          exact t
        · -- 79
          exfalso; omega
    · have he2 : putAll (put d x.1 x.2) (remK k (p ++ [x]).length q) 1 = putAll (s.1, s.2.1, s.2.2.1, []) (s.2.2.2.eraseIdx k) 1 := by
        rw [← he]
        unfold remK
        by_cases e2 : p.length ≤ k
        · rw [if_pos (by omega), if_pos e2, show k - p.length = (k - (p ++ [x]).length) + 1 by omega, List.eraseIdx_cons_succ]
          rw [show putAll d (x :: q.eraseIdx (k - (p ++ [x]).length)) 1 = putAll (put d x.1 (x.2 * 1)) (q.eraseIdx (k - (p ++ [x]).length)) 1 from rfl, Int.mul_one]
        · rw [if_neg (by omega), if_neg e2]
          rw [show putAll d (x :: q) 1 = putAll (put d x.1 (x.2 * 1)) q 1 from rfl, Int.mul_one]
      refine E_iload_n dX11_drills_65 rfl ?_
      refine E_aload_n dX11_drills_66 rfl ?_
      refine E_iload_n dX11_drills_67 rfl ?_
      refine E_callVR dX11_drills_68 lkX11_100 (Hp_get sk_203) (m_fibres hi hs') ?_
      refine E_icmp_ge 101 dX11_drills_71 (fun h71 => ?_) (fun h71 => ?_)
      · -- 101
        exfalso; omega
      · -- 74
        refine E_iload_n dX11_drills_74 rfl ?_
        refine E_iload_n dX11_drills_75 rfl ?_
        refine E_icmp_eq 95 dX11_drills_76 (fun h76 => ?_) (fun h76 => ?_)
        · -- 95
          first | (exfalso; omega) | exact E_iinc dX11_drills_95 rfl (E_goto 65 dX11_drills_98 t)
        · -- 79
          refine E_aload_n dX11_drills_79 rfl ?_
          refine E_aload_n dX11_drills_80 rfl ?_
          refine E_iload_n dX11_drills_81 rfl ?_
          refine E_iload_n dX11_drills_82 rfl ?_
          refine E_callVR dX11_drills_83 lkX11_90 (Hp_get sk_203) (m_a hi hs' (by omega) hat) ?_
          refine E_aload_n dX11_drills_86 rfl ?_
          refine E_iload_n dX11_drills_87 rfl ?_
          refine E_iload_n dX11_drills_88 rfl ?_
          refine E_callVR dX11_drills_89 lkX11_93 (Hp_get sk_203) (m_b hi hs' (by omega) hat) ?_
          refine E_callVV dX11_drills_92 lkX11_104 (Hp_get sk_203) (m_add (a := x.1) (b := x.2) h2 (by omega) (by omega) h3 (by omega)) ?_
          rintro μ2 ⟨g1, g2⟩
          have t := ih (p ++ [x]) _ μ2 (by rw [← h1]; simp) he2 g1 (smF_put (by omega) h3) (by have := putm_len (d := d) (a := x.1) (b := x.2); omega) (h4.tr g2)
          rw [show ((p ++ [x]).length : Int) = (p.length : Int) + 1 by simp] at t
          first | (exfalso; omega) | exact E_iinc dX11_drills_95 rfl (E_goto 65 dX11_drills_98 t)
theorem m_drills {i k : Int} (hi : -2147483648 ≤ i ∧ i < 2147483648) (hk : -2147483648 ≤ k ∧ k < 2147483648) (hM : RepM μ σ) (hok : stOk σ) : Ctr G mX11_drills [.ref 203, vi i, vi k] (Hp μ) (NQ μ (sDrills σ i k)) := by
  refine Ctr.of ?_
  have hsi := m_isSpace (G := G) (M := Hp μ) hi
  by_cases q1 : isS i
  · rw [cif_pos q1] at hsi
    have j1 := q1.1
    have j2 := q1.2
    have hn := rn_at q1 hM.1
    have ho := ok_at q1 hok.1
    obtain ⟨o0, o1, o2, o3, o4, o5, o6⟩ := id ho
    have hin := m_in (G := G) (M := Hp μ) (v := k) (lo := 0) (hi := ((σ.1 i.toNat).2.2.2.length : Int) - 1) (by omega) (by omega) (by omega)
    by_cases q2 : 0 ≤ k ∧ k ≤ ((σ.1 i.toNat).2.2.2.length : Int) - 1
    · rw [cif_pos q2] at hin
      rw [show sDrills σ i k = _ from cif_neg (not_not_intro ⟨q1, q2.1, by omega⟩)]
      have hsh := putAll_sh (m := 1) (by omega) ((σ.1 i.toNat).2.2.2.eraseIdx k.toNat) ((σ.1 i.toNat).1, (σ.1 i.toNat).2.1, (σ.1 i.toNat).2.2.1, []) (fun x hx => o6 x (List.mem_of_mem_eraseIdx hx))
      have hle : ((σ.1 i.toNat).2.2.2.eraseIdx k.toNat).length ≤ 6 := Nat.le_trans (List.length_eraseIdx_le _ _) o5
      have hpl := putAll_len (m := 1) ((σ.1 i.toNat).2.2.2.eraseIdx k.toNat) ((σ.1 i.toNat).1, (σ.1 i.toNat).2.1, (σ.1 i.toNat).2.2.1, [])
      simp only [List.length_nil] at hpl hsh
      have ek : vi k = vi ((k.toNat : Nat) : Int) := by rw [show ((k.toNat : Nat) : Int) = k by omega]
      refine E_iload_n dX11_drills_0 rfl ?_
      refine E_callSR dX11_drills_1 lkX11_147 (hsi) ?_
      refine E_if_eq 24 dX11_drills_4 (fun h4 => ?_) (fun h4 => ?_)
      · -- 24
        first | exact absurd h4 (by decide) | exact absurd h21 (by decide)
      · -- 7
        refine E_iload_n dX11_drills_7 rfl ?_
        refine E_i2l dX11_drills_8 ?_
        refine E_lconst0 dX11_drills_9 ?_
        refine E_aload_n dX11_drills_10 rfl ?_
        refine E_iload_n dX11_drills_11 rfl ?_
        refine E_callVR dX11_drills_12 lkX11_100 (Hp_get sk_203) (m_fibres q1 hn) ?_
        refine E_iconst dX11_drills_15 ?_
        refine E_isub dX11_drills_16 ?_
        refine E_i2l dX11_drills_17 ?_
        refine E_callSR dX11_drills_18 lkX11_63 (hin) ?_
        refine E_if_ne 26 dX11_drills_21 (fun h21 => ?_) (fun h21 => ?_)
        · -- 26
          refine E_aload_n dX11_drills_26 rfl ?_
          refine E_aload_n dX11_drills_27 rfl ?_
          refine GX11_7 sk_203 dX11_drills_28 ?_
          refine E_bipush dX11_drills_31 ?_
          refine E_iload_n dX11_drills_33 rfl ?_
          refine E_imul dX11_drills_34 ?_
          refine E_iconst dX11_drills_35 ?_
          refine E_iadd dX11_drills_36 ?_
          refine H_iald sk_204 dX11_drills_37 ?_
          rw [Int.add_zero, hn.1]
          refine E_aload_n dX11_drills_38 rfl ?_
          refine GX11_7 sk_203 dX11_drills_39 ?_
          refine E_bipush dX11_drills_42 ?_
          refine E_iload_n dX11_drills_44 rfl ?_
          refine E_imul dX11_drills_45 ?_
          refine E_iconst dX11_drills_46 ?_
          refine E_iadd dX11_drills_47 ?_
          refine H_iald sk_204 dX11_drills_48 ?_
          rw [hn.2.1]
          refine E_aload_n dX11_drills_49 rfl ?_
          refine GX11_7 sk_203 dX11_drills_50 ?_
          refine E_bipush dX11_drills_53 ?_
          refine E_iload_n dX11_drills_55 rfl ?_
          refine E_imul dX11_drills_56 ?_
          refine E_iconst dX11_drills_57 ?_
          refine E_iadd dX11_drills_58 ?_
          refine H_iald sk_204 dX11_drills_59 ?_
          rw [hn.2.2.1]
          refine E_callVV dX11_drills_60 lkX11_96 (Hp_get sk_203) (m_begin) ?_
          rintro μ1 ⟨a1, a2⟩
          refine E_iconst dX11_drills_63 ?_
          refine E_istore_n dX11_drills_64 ?_
          rw [ek]
          refine drill_loop (μ := μ) (k := k.toNat) q1 hn ho (fun d μ2 w e g1 g2 => ?_) (by omega) (σ.1 i.toNat).2.2.2 [] _ μ1 rfl (by unfold remK; rw [if_pos (by simp)]; rfl) a1 (fun y hy => by simp at hy) (by simp) a2
          rw [← e]
          refine layN hM hok q1 g1 ?_ ?_ ?_ g2 dX11_drills_101 dX11_drills_102 dX11_drills_103 dX11_drills_104 dX11_drills_107 dX11_drills_110
          · rw [e]; omega
          · rw [e]; omega
          · rw [e]; omega
        · -- 24
          first | exact absurd h4 (by decide) | exact absurd h21 (by decide)
    · rw [cif_neg q2] at hin
      rw [show sDrills σ i k = (-1, σ) from cif_pos (fun h => q2 ⟨h.2.1, by have := h.2.2; omega⟩)]
      refine E_iload_n dX11_drills_0 rfl ?_
      refine E_callSR dX11_drills_1 lkX11_147 (hsi) ?_
      refine E_if_eq 24 dX11_drills_4 (fun h4 => ?_) (fun h4 => ?_)
      · -- 24
        refine E_iconst dX11_drills_24 ?_
        refine E_iret dX11_drills_25 ?_
        exact ⟨rfl, _, rfl, hM, fun _ _ => rfl⟩
      · -- 7
        refine E_iload_n dX11_drills_7 rfl ?_
        refine E_i2l dX11_drills_8 ?_
        refine E_lconst0 dX11_drills_9 ?_
        refine E_aload_n dX11_drills_10 rfl ?_
        refine E_iload_n dX11_drills_11 rfl ?_
        refine E_callVR dX11_drills_12 lkX11_100 (Hp_get sk_203) (m_fibres q1 hn) ?_
        refine E_iconst dX11_drills_15 ?_
        refine E_isub dX11_drills_16 ?_
        refine E_i2l dX11_drills_17 ?_
        refine E_callSR dX11_drills_18 lkX11_63 (hin) ?_
        refine E_if_ne 26 dX11_drills_21 (fun h21 => ?_) (fun h21 => ?_)
        · -- 26
          exact absurd rfl h21
        · -- 24
          refine E_iconst dX11_drills_24 ?_
          refine E_iret dX11_drills_25 ?_
          exact ⟨rfl, _, rfl, hM, fun _ _ => rfl⟩
  · rw [cif_neg q1] at hsi
    rw [show sDrills σ i k = (-1, σ) from cif_pos (fun h => q1 h.1)]
    refine E_iload_n dX11_drills_0 rfl ?_
    refine E_callSR dX11_drills_1 lkX11_147 (hsi) ?_
    refine E_if_eq 24 dX11_drills_4 (fun h4 => ?_) (fun h4 => ?_)
    · -- 24
      refine E_iconst dX11_drills_24 ?_
      refine E_iret dX11_drills_25 ?_
      exact ⟨rfl, _, rfl, hM, fun _ _ => rfl⟩
    · -- 7
      exact absurd rfl h4
theorem join_1 {i j k c4 c5 c6 c7 : Int} {s : Sp} {Q : QT} (hj : isS j) (hs : RepN μ 204 (16 * j) s) (hok : spOk s) (n0 : Nat) (hn0 : n0 ≤ 6) : ∀ (q p : List Fib) (d : Sp) (μ' : Mem), p ++ q = s.2.2.2 → RepB μ' d → (∀ y ∈ d.2.2.2, smF y) → d.2.2.2.length ≤ n0 + p.length → OffB μ μ' →
    (∀ (μ2 : Mem) (w : Value), RepB μ2 (putAll d q 1) → (∀ y ∈ (putAll d q 1).2.2.2, smF y) → (putAll d q 1).2.2.2.length ≤ n0 + s.2.2.2.length → OffB μ μ2 → E G mX11_joins (Zq G mX11_joins Q) 0 0 187 [.ref 203, vi i, vi j, vi k, vi c4, vi c5, vi c6, vi c7, w] [] (Hp μ2)) →
    E G mX11_joins (Zq G mX11_joins Q) 0 0 153 [.ref 203, vi i, vi j, vi k, vi c4, vi c5, vi c6, vi c7, vi (p.length : Int)] [] (Hp μ') := by
  have hb := hok.2.2.2.2.2.1
  have j1 := hj.1
  have j2 := hj.2
  intro q
  induction q with
  | nil =>
    intro p d μ' h1 h2 h3 hl h4 hk
    have hs' := hs.kept h4.now
    have hp : p.length = s.2.2.2.length := by rw [← h1]; simp
    refine E_iload dX11_joins_153 rfl ?_
    refine E_aload_n dX11_joins_155 rfl ?_
    refine E_iload_n dX11_joins_156 rfl ?_
    refine E_callVR dX11_joins_157 lkX11_100 (Hp_get sk_203) (m_fibres hj hs') ?_
    refine E_icmp_ge 187 dX11_joins_160 (fun h160 => ?_) (fun h160 => ?_)
    · -- 187
      exact hk μ' _ h2 h3 (by rw [← hp]; exact hl) h4
    · -- 163
      exfalso; omega
  | cons x q ih =>
    intro p d μ' h1 h2 h3 hl h4 hk
    have hs' := hs.kept h4.now
    have hp : p.length + 1 + q.length = s.2.2.2.length := by rw [← h1]; simp; omega
    obtain ⟨x1, x2, x3, x4, -⟩ := hok.2.2.2.2.2.2 x (by rw [← h1]; simp)
    have hat : s.2.2.2[p.length]? = some x := by rw [← h1]; simp
    rw [show putAll d (x :: q) 1 = putAll (put d x.1 (x.2 * 1)) q 1 from rfl, Int.mul_one] at hk
    refine E_iload dX11_joins_153 rfl ?_
    refine E_aload_n dX11_joins_155 rfl ?_
    refine E_iload_n dX11_joins_156 rfl ?_
    refine E_callVR dX11_joins_157 lkX11_100 (Hp_get sk_203) (m_fibres hj hs') ?_
    refine E_icmp_ge 187 dX11_joins_160 (fun h160 => ?_) (fun h160 => ?_)
    · -- 187
      exfalso; omega
    · -- 163
      refine E_aload_n dX11_joins_163 rfl ?_
      refine E_aload_n dX11_joins_164 rfl ?_
      refine E_iload_n dX11_joins_165 rfl ?_
      refine E_iload dX11_joins_166 rfl ?_
      refine E_callVR dX11_joins_168 lkX11_90 (Hp_get sk_203) (m_a hj hs' (by omega) hat) ?_
      refine E_aload_n dX11_joins_171 rfl ?_
      refine E_iload_n dX11_joins_172 rfl ?_
      refine E_iload dX11_joins_173 rfl ?_
      refine E_callVR dX11_joins_175 lkX11_93 (Hp_get sk_203) (m_b hj hs' (by omega) hat) ?_
      refine E_callVV dX11_joins_178 lkX11_104 (Hp_get sk_203) (m_add (a := x.1) (b := x.2) h2 (by omega) (by omega) h3 (by omega)) ?_
      rintro μ2 ⟨g1, g2⟩
      refine E_iinc dX11_joins_181 rfl ?_
      refine E_goto 153 dX11_joins_184 ?_
      have t := ih (p ++ [x]) _ μ2 (by rw [← h1]; simp) g1 (smF_put (by omega) h3) (by have := putm_len (d := d) (a := x.1) (b := x.2); simp; omega) (h4.tr g2) hk
      rw [show ((p ++ [x]).length : Int) = (p.length : Int) + 1 by simp] at t
      exact t
theorem join_2 {i j k c4 c5 c6 c7 : Int} {s : Sp} {Q : QT} (hj : isS k) (hs : RepN μ 204 (16 * k) s) (hok : spOk s) (n0 : Nat) (hn0 : n0 ≤ 6) : ∀ (q p : List Fib) (d : Sp) (μ' : Mem), p ++ q = s.2.2.2 → RepB μ' d → (∀ y ∈ d.2.2.2, smF y) → d.2.2.2.length ≤ n0 + p.length → OffB μ μ' →
    (∀ (μ2 : Mem) (w : Value), RepB μ2 (putAll d q 1) → (∀ y ∈ (putAll d q 1).2.2.2, smF y) → (putAll d q 1).2.2.2.length ≤ n0 + s.2.2.2.length → OffB μ μ2 → E G mX11_joins (Zq G mX11_joins Q) 0 0 224 [.ref 203, vi i, vi j, vi k, vi c4, vi c5, vi c6, vi c7, w] [] (Hp μ2)) →
    E G mX11_joins (Zq G mX11_joins Q) 0 0 190 [.ref 203, vi i, vi j, vi k, vi c4, vi c5, vi c6, vi c7, vi (p.length : Int)] [] (Hp μ') := by
  have hb := hok.2.2.2.2.2.1
  have j1 := hj.1
  have j2 := hj.2
  intro q
  induction q with
  | nil =>
    intro p d μ' h1 h2 h3 hl h4 hk
    have hs' := hs.kept h4.now
    have hp : p.length = s.2.2.2.length := by rw [← h1]; simp
    refine E_iload dX11_joins_190 rfl ?_
    refine E_aload_n dX11_joins_192 rfl ?_
    refine E_iload_n dX11_joins_193 rfl ?_
    refine E_callVR dX11_joins_194 lkX11_100 (Hp_get sk_203) (m_fibres hj hs') ?_
    refine E_icmp_ge 224 dX11_joins_197 (fun h197 => ?_) (fun h197 => ?_)
    · -- 224
      exact hk μ' _ h2 h3 (by rw [← hp]; exact hl) h4
    · -- 200
      exfalso; omega
  | cons x q ih =>
    intro p d μ' h1 h2 h3 hl h4 hk
    have hs' := hs.kept h4.now
    have hp : p.length + 1 + q.length = s.2.2.2.length := by rw [← h1]; simp; omega
    obtain ⟨x1, x2, x3, x4, -⟩ := hok.2.2.2.2.2.2 x (by rw [← h1]; simp)
    have hat : s.2.2.2[p.length]? = some x := by rw [← h1]; simp
    rw [show putAll d (x :: q) 1 = putAll (put d x.1 (x.2 * 1)) q 1 from rfl, Int.mul_one] at hk
    refine E_iload dX11_joins_190 rfl ?_
    refine E_aload_n dX11_joins_192 rfl ?_
    refine E_iload_n dX11_joins_193 rfl ?_
    refine E_callVR dX11_joins_194 lkX11_100 (Hp_get sk_203) (m_fibres hj hs') ?_
    refine E_icmp_ge 224 dX11_joins_197 (fun h197 => ?_) (fun h197 => ?_)
    · -- 224
      exfalso; omega
    · -- 200
      refine E_aload_n dX11_joins_200 rfl ?_
      refine E_aload_n dX11_joins_201 rfl ?_
      refine E_iload_n dX11_joins_202 rfl ?_
      refine E_iload dX11_joins_203 rfl ?_
      refine E_callVR dX11_joins_205 lkX11_90 (Hp_get sk_203) (m_a hj hs' (by omega) hat) ?_
      refine E_aload_n dX11_joins_208 rfl ?_
      refine E_iload_n dX11_joins_209 rfl ?_
      refine E_iload dX11_joins_210 rfl ?_
      refine E_callVR dX11_joins_212 lkX11_93 (Hp_get sk_203) (m_b hj hs' (by omega) hat) ?_
      refine E_callVV dX11_joins_215 lkX11_104 (Hp_get sk_203) (m_add (a := x.1) (b := x.2) h2 (by omega) (by omega) h3 (by omega)) ?_
      rintro μ2 ⟨g1, g2⟩
      refine E_iinc dX11_joins_218 rfl ?_
      refine E_goto 190 dX11_joins_221 ?_
      have t := ih (p ++ [x]) _ μ2 (by rw [← h1]; simp) g1 (smF_put (by omega) h3) (by have := putm_len (d := d) (a := x.1) (b := x.2); simp; omega) (h4.tr g2) hk
      rw [show ((p ++ [x]).length : Int) = (p.length : Int) + 1 by simp] at t
      exact t
theorem m_joins {i j k : Int} (hi : -2147483648 ≤ i ∧ i < 2147483648) (hj : -2147483648 ≤ j ∧ j < 2147483648) (hk : -2147483648 ≤ k ∧ k < 2147483648) (hM : RepM μ σ) (hok : stOk σ) : Ctr G mX11_joins [.ref 203, vi i, vi j, vi k] (Hp μ) (NQ μ (sJoins σ i j k)) := by
  refine Ctr.of ?_
  have hsi := m_isSpace (G := G) (M := Hp μ) hi
  have hsj := m_isSpace (G := G) (M := Hp μ) hj
  have hsk := m_isSpace (G := G) (M := Hp μ) hk
  have bad : ¬ (isS i ∧ isS j ∧ isS k) → sJoins σ i j k = (-1, σ) := fun h => cif_pos h
  by_cases q1 : isS i
  · rw [cif_pos q1] at hsi
    by_cases q2 : isS j
    · rw [cif_pos q2] at hsj
      by_cases q3 : isS k
      · rw [cif_pos q3] at hsk
        rw [show sJoins σ i j k = _ from cif_neg (not_not_intro ⟨q1, q2, q3⟩)]
        have j1 := q2.1
        have j2 := q2.2
        have k1 := q3.1
        have k2 := q3.2
        have hn := rn_at q2 hM.1
        have hm := rn_at q3 hM.1
        have ho := ok_at q2 hok.1
        have hp := ok_at q3 hok.1
        obtain ⟨o0, o1, o2, o3, o4, o5, o6⟩ := id ho
        obtain ⟨p0, p1, p2, p3, p4, p5, p6⟩ := id hp
        generalize hS : σ.1 j.toNat = s at *
        generalize hT : σ.1 k.toNat = t at *
        have fin : ∀ (c6 c7 : Int) (μ1 : Mem) (w : Value), c6 = max s.1 t.1 → c7 = (if s.1 = max s.1 t.1 then s.2.1 else 2 * s.2.1) + (if t.1 = max s.1 t.1 then t.2.1 else 2 * t.2.1) → RepB μ1 (c6, c7, s.2.2.1 + t.2.2.1, []) → OffB μ μ1 → E G mX11_joins (Zq G mX11_joins (NQ μ (sSettle σ i (joinD s t) (joinD s t).2.2.2.length))) 0 0 153 [.ref 203, vi i, vi j, vi k, vi s.1, vi t.1, vi c6, vi c7, vi 0] [] (Hp μ1) := by
          intro c6 c7 μ1 w e6 e7 a1 a2
          have hg : 0 ≤ c7 ∧ c7 ≤ 100 := by rw [e7]; split <;> split <;> omega
          have s1 := putAll_sh (m := 1) (by omega) s.2.2.2 (c6, c7, s.2.2.1 + t.2.2.1, []) o6
          have s2 := putAll_sh (m := 1) (by omega) t.2.2.2 (putAll (c6, c7, s.2.2.1 + t.2.2.1, []) s.2.2.2 1) p6
          have ej : joinD s t = putAll (putAll (c6, c7, s.2.2.1 + t.2.2.1, []) s.2.2.2 1) t.2.2.2 1 := by unfold joinD; rw [e6, e7]
          simp only at s1
          refine join_1 (μ := μ) (s := s) q2 hn ho 0 (by omega) s.2.2.2 [] _ μ1 rfl a1 (fun y hy => by simp at hy) (by simp) a2 (fun μ2 w b1 b2 b3 b4 => ?_)
          refine E_iconst dX11_joins_187 (E_istore dX11_joins_188 ?_)
          refine join_2 (μ := μ) (s := t) q3 hm hp 6 (by omega) t.2.2.2 [] _ μ2 rfl b1 b2 (by simp; omega) b4 (fun μ3 w d1 d2 d3 d4 => ?_)
          rw [← ej] at d1 d3 s2
          exact layN hM hok q1 d1 (by omega) (by omega) (by omega) d4 dX11_joins_224 dX11_joins_225 dX11_joins_226 dX11_joins_227 dX11_joins_230 dX11_joins_233
        refine E_iload_n dX11_joins_0 rfl ?_
        refine E_callSR dX11_joins_1 lkX11_147 (hsi) ?_
        refine E_if_eq 21 dX11_joins_4 (fun h4 => ?_) (fun h4 => ?_)
        · -- 21
          first | exact absurd h4 (by decide) | exact absurd h11 (by decide) | exact absurd h18 (by decide)
        · -- 7
          refine E_iload_n dX11_joins_7 rfl ?_
          refine E_callSR dX11_joins_8 lkX11_147 (hsj) ?_
          refine E_if_eq 21 dX11_joins_11 (fun h11 => ?_) (fun h11 => ?_)
          · -- 21
            first | exact absurd h4 (by decide) | exact absurd h11 (by decide) | exact absurd h18 (by decide)
          · -- 14
            refine E_iload_n dX11_joins_14 rfl ?_
            refine E_callSR dX11_joins_15 lkX11_147 (hsk) ?_
            refine E_if_ne 23 dX11_joins_18 (fun h18 => ?_) (fun h18 => ?_)
            · -- 23
              refine E_aload_n dX11_joins_23 rfl ?_
              refine GX11_7 sk_203 dX11_joins_24 ?_
              refine E_bipush dX11_joins_27 ?_
              refine E_iload_n dX11_joins_29 rfl ?_
              refine E_imul dX11_joins_30 ?_
              refine E_iconst dX11_joins_31 ?_
              refine E_iadd dX11_joins_32 ?_
              refine H_iald sk_204 dX11_joins_33 ?_
              rw [Int.add_zero, hn.1]
              refine E_istore dX11_joins_34 ?_
              refine E_aload_n dX11_joins_36 rfl ?_
              refine GX11_7 sk_203 dX11_joins_37 ?_
              refine E_bipush dX11_joins_40 ?_
              refine E_iload_n dX11_joins_42 rfl ?_
              refine E_imul dX11_joins_43 ?_
              refine E_iconst dX11_joins_44 ?_
              refine E_iadd dX11_joins_45 ?_
              refine H_iald sk_204 dX11_joins_46 ?_
              rw [Int.add_zero, hm.1]
              refine E_istore dX11_joins_47 ?_
              refine E_iload dX11_joins_49 rfl ?_
              refine E_iconst dX11_joins_51 ?_
              refine E_icmp_eq 61 dX11_joins_52 (fun h52 => ?_) (fun h52 => ?_)
              · -- 61
                refine E_iconst dX11_joins_61 ?_
                refine E_goto 66 dX11_joins_62 ?_
                refine E_istore dX11_joins_66 ?_
                refine E_aload_n dX11_joins_68 rfl ?_
                refine GX11_7 sk_203 dX11_joins_69 ?_
                refine E_bipush dX11_joins_72 ?_
                refine E_iload_n dX11_joins_74 rfl ?_
                refine E_imul dX11_joins_75 ?_
                refine E_iconst dX11_joins_76 ?_
                refine E_iadd dX11_joins_77 ?_
                refine H_iald sk_204 dX11_joins_78 ?_
                rw [hn.2.1]
                refine E_iload dX11_joins_79 rfl ?_
                refine E_iload dX11_joins_81 rfl ?_
                refine E_icmp_ge 90 dX11_joins_83 (fun h83 => ?_) (fun h83 => ?_)
                · -- 90
                  refine E_iconst dX11_joins_90 ?_
                  refine E_imul dX11_joins_91 ?_
                  refine E_aload_n dX11_joins_92 rfl ?_
                  refine GX11_7 sk_203 dX11_joins_93 ?_
                  refine E_bipush dX11_joins_96 ?_
                  refine E_iload_n dX11_joins_98 rfl ?_
                  refine E_imul dX11_joins_99 ?_
                  refine E_iconst dX11_joins_100 ?_
                  refine E_iadd dX11_joins_101 ?_
                  refine H_iald sk_204 dX11_joins_102 ?_
                  rw [hm.2.1]
                  refine E_iload dX11_joins_103 rfl ?_
                  refine E_iload dX11_joins_105 rfl ?_
                  refine E_icmp_ge 114 dX11_joins_107 (fun h107 => ?_) (fun h107 => ?_)
                  · -- 114
                    refine E_iconst dX11_joins_114 ?_
                    refine E_imul dX11_joins_115 ?_
                    refine E_iadd dX11_joins_116 ?_
                    refine E_istore dX11_joins_117 ?_
                    refine E_aload_n dX11_joins_119 rfl ?_
                    refine E_iload dX11_joins_120 rfl ?_
                    refine E_iload dX11_joins_122 rfl ?_
                    refine E_aload_n dX11_joins_124 rfl ?_
                    refine GX11_7 sk_203 dX11_joins_125 ?_
                    refine E_bipush dX11_joins_128 ?_
                    refine E_iload_n dX11_joins_130 rfl ?_
                    refine E_imul dX11_joins_131 ?_
                    refine E_iconst dX11_joins_132 ?_
                    refine E_iadd dX11_joins_133 ?_
                    refine H_iald sk_204 dX11_joins_134 ?_
                    rw [hn.2.2.1]
                    refine E_aload_n dX11_joins_135 rfl ?_
                    refine GX11_7 sk_203 dX11_joins_136 ?_
                    refine E_bipush dX11_joins_139 ?_
                    refine E_iload_n dX11_joins_141 rfl ?_
                    refine E_imul dX11_joins_142 ?_
                    refine E_iconst dX11_joins_143 ?_
                    refine E_iadd dX11_joins_144 ?_
                    refine H_iald sk_204 dX11_joins_145 ?_
                    rw [hm.2.2.1]
                    refine E_iadd dX11_joins_146 ?_
                    refine E_callVV dX11_joins_147 lkX11_96 (Hp_get sk_203) (m_begin) ?_
                    rintro μ1 ⟨a1, a2⟩
                    refine E_iconst dX11_joins_150 ?_
                    refine E_istore dX11_joins_151 ?_
                    first | (exfalso; omega) | exact fin _ _ μ1 (.retAddr 0) (by omega) (by split <;> split <;> omega) a1 a2
                  · -- 110
                    refine E_iconst dX11_joins_110 ?_
                    refine E_goto 115 dX11_joins_111 ?_
                    refine E_imul dX11_joins_115 ?_
                    refine E_iadd dX11_joins_116 ?_
                    refine E_istore dX11_joins_117 ?_
                    refine E_aload_n dX11_joins_119 rfl ?_
                    refine E_iload dX11_joins_120 rfl ?_
                    refine E_iload dX11_joins_122 rfl ?_
                    refine E_aload_n dX11_joins_124 rfl ?_
                    refine GX11_7 sk_203 dX11_joins_125 ?_
                    refine E_bipush dX11_joins_128 ?_
                    refine E_iload_n dX11_joins_130 rfl ?_
                    refine E_imul dX11_joins_131 ?_
                    refine E_iconst dX11_joins_132 ?_
                    refine E_iadd dX11_joins_133 ?_
                    refine H_iald sk_204 dX11_joins_134 ?_
                    rw [hn.2.2.1]
                    refine E_aload_n dX11_joins_135 rfl ?_
                    refine GX11_7 sk_203 dX11_joins_136 ?_
                    refine E_bipush dX11_joins_139 ?_
                    refine E_iload_n dX11_joins_141 rfl ?_
                    refine E_imul dX11_joins_142 ?_
                    refine E_iconst dX11_joins_143 ?_
                    refine E_iadd dX11_joins_144 ?_
                    refine H_iald sk_204 dX11_joins_145 ?_
                    rw [hm.2.2.1]
                    refine E_iadd dX11_joins_146 ?_
                    refine E_callVV dX11_joins_147 lkX11_96 (Hp_get sk_203) (m_begin) ?_
                    rintro μ1 ⟨a1, a2⟩
                    refine E_iconst dX11_joins_150 ?_
                    refine E_istore dX11_joins_151 ?_
                    first | (exfalso; omega) | exact fin _ _ μ1 (.retAddr 0) (by omega) (by split <;> split <;> omega) a1 a2
                · -- 86
                  refine E_iconst dX11_joins_86 ?_
                  refine E_goto 91 dX11_joins_87 ?_
                  refine E_imul dX11_joins_91 ?_
                  refine E_aload_n dX11_joins_92 rfl ?_
                  refine GX11_7 sk_203 dX11_joins_93 ?_
                  refine E_bipush dX11_joins_96 ?_
                  refine E_iload_n dX11_joins_98 rfl ?_
                  refine E_imul dX11_joins_99 ?_
                  refine E_iconst dX11_joins_100 ?_
                  refine E_iadd dX11_joins_101 ?_
                  refine H_iald sk_204 dX11_joins_102 ?_
                  rw [hm.2.1]
                  refine E_iload dX11_joins_103 rfl ?_
                  refine E_iload dX11_joins_105 rfl ?_
                  refine E_icmp_ge 114 dX11_joins_107 (fun h107 => ?_) (fun h107 => ?_)
                  · -- 114
                    refine E_iconst dX11_joins_114 ?_
                    refine E_imul dX11_joins_115 ?_
                    refine E_iadd dX11_joins_116 ?_
                    refine E_istore dX11_joins_117 ?_
                    refine E_aload_n dX11_joins_119 rfl ?_
                    refine E_iload dX11_joins_120 rfl ?_
                    refine E_iload dX11_joins_122 rfl ?_
                    refine E_aload_n dX11_joins_124 rfl ?_
                    refine GX11_7 sk_203 dX11_joins_125 ?_
                    refine E_bipush dX11_joins_128 ?_
                    refine E_iload_n dX11_joins_130 rfl ?_
                    refine E_imul dX11_joins_131 ?_
                    refine E_iconst dX11_joins_132 ?_
                    refine E_iadd dX11_joins_133 ?_
                    refine H_iald sk_204 dX11_joins_134 ?_
                    rw [hn.2.2.1]
                    refine E_aload_n dX11_joins_135 rfl ?_
                    refine GX11_7 sk_203 dX11_joins_136 ?_
                    refine E_bipush dX11_joins_139 ?_
                    refine E_iload_n dX11_joins_141 rfl ?_
                    refine E_imul dX11_joins_142 ?_
                    refine E_iconst dX11_joins_143 ?_
                    refine E_iadd dX11_joins_144 ?_
                    refine H_iald sk_204 dX11_joins_145 ?_
                    rw [hm.2.2.1]
                    refine E_iadd dX11_joins_146 ?_
                    refine E_callVV dX11_joins_147 lkX11_96 (Hp_get sk_203) (m_begin) ?_
                    rintro μ1 ⟨a1, a2⟩
                    refine E_iconst dX11_joins_150 ?_
                    refine E_istore dX11_joins_151 ?_
                    first | (exfalso; omega) | exact fin _ _ μ1 (.retAddr 0) (by omega) (by split <;> split <;> omega) a1 a2
                  · -- 110
                    refine E_iconst dX11_joins_110 ?_
                    refine E_goto 115 dX11_joins_111 ?_
                    refine E_imul dX11_joins_115 ?_
                    refine E_iadd dX11_joins_116 ?_
                    refine E_istore dX11_joins_117 ?_
                    refine E_aload_n dX11_joins_119 rfl ?_
                    refine E_iload dX11_joins_120 rfl ?_
                    refine E_iload dX11_joins_122 rfl ?_
                    refine E_aload_n dX11_joins_124 rfl ?_
                    refine GX11_7 sk_203 dX11_joins_125 ?_
                    refine E_bipush dX11_joins_128 ?_
                    refine E_iload_n dX11_joins_130 rfl ?_
                    refine E_imul dX11_joins_131 ?_
                    refine E_iconst dX11_joins_132 ?_
                    refine E_iadd dX11_joins_133 ?_
                    refine H_iald sk_204 dX11_joins_134 ?_
                    rw [hn.2.2.1]
                    refine E_aload_n dX11_joins_135 rfl ?_
                    refine GX11_7 sk_203 dX11_joins_136 ?_
                    refine E_bipush dX11_joins_139 ?_
                    refine E_iload_n dX11_joins_141 rfl ?_
                    refine E_imul dX11_joins_142 ?_
                    refine E_iconst dX11_joins_143 ?_
                    refine E_iadd dX11_joins_144 ?_
                    refine H_iald sk_204 dX11_joins_145 ?_
                    rw [hm.2.2.1]
                    refine E_iadd dX11_joins_146 ?_
                    refine E_callVV dX11_joins_147 lkX11_96 (Hp_get sk_203) (m_begin) ?_
                    rintro μ1 ⟨a1, a2⟩
                    refine E_iconst dX11_joins_150 ?_
                    refine E_istore dX11_joins_151 ?_
                    first | (exfalso; omega) | exact fin _ _ μ1 (.retAddr 0) (by omega) (by split <;> split <;> omega) a1 a2
              · -- 55
                refine E_iload dX11_joins_55 rfl ?_
                refine E_iconst dX11_joins_57 ?_
                refine E_icmp_ne 65 dX11_joins_58 (fun h58 => ?_) (fun h58 => ?_)
                · -- 65
                  refine E_iconst dX11_joins_65 ?_
                  refine E_istore dX11_joins_66 ?_
                  refine E_aload_n dX11_joins_68 rfl ?_
                  refine GX11_7 sk_203 dX11_joins_69 ?_
                  refine E_bipush dX11_joins_72 ?_
                  refine E_iload_n dX11_joins_74 rfl ?_
                  refine E_imul dX11_joins_75 ?_
                  refine E_iconst dX11_joins_76 ?_
                  refine E_iadd dX11_joins_77 ?_
                  refine H_iald sk_204 dX11_joins_78 ?_
                  rw [hn.2.1]
                  refine E_iload dX11_joins_79 rfl ?_
                  refine E_iload dX11_joins_81 rfl ?_
                  refine E_icmp_ge 90 dX11_joins_83 (fun h83 => ?_) (fun h83 => ?_)
                  · -- 90
                    refine E_iconst dX11_joins_90 ?_
                    refine E_imul dX11_joins_91 ?_
                    refine E_aload_n dX11_joins_92 rfl ?_
                    refine GX11_7 sk_203 dX11_joins_93 ?_
                    refine E_bipush dX11_joins_96 ?_
                    refine E_iload_n dX11_joins_98 rfl ?_
                    refine E_imul dX11_joins_99 ?_
                    refine E_iconst dX11_joins_100 ?_
                    refine E_iadd dX11_joins_101 ?_
                    refine H_iald sk_204 dX11_joins_102 ?_
                    rw [hm.2.1]
                    refine E_iload dX11_joins_103 rfl ?_
                    refine E_iload dX11_joins_105 rfl ?_
                    refine E_icmp_ge 114 dX11_joins_107 (fun h107 => ?_) (fun h107 => ?_)
                    · -- 114
                      refine E_iconst dX11_joins_114 ?_
                      refine E_imul dX11_joins_115 ?_
                      refine E_iadd dX11_joins_116 ?_
                      refine E_istore dX11_joins_117 ?_
                      refine E_aload_n dX11_joins_119 rfl ?_
                      refine E_iload dX11_joins_120 rfl ?_
                      refine E_iload dX11_joins_122 rfl ?_
                      refine E_aload_n dX11_joins_124 rfl ?_
                      refine GX11_7 sk_203 dX11_joins_125 ?_
                      refine E_bipush dX11_joins_128 ?_
                      refine E_iload_n dX11_joins_130 rfl ?_
                      refine E_imul dX11_joins_131 ?_
                      refine E_iconst dX11_joins_132 ?_
                      refine E_iadd dX11_joins_133 ?_
                      refine H_iald sk_204 dX11_joins_134 ?_
                      rw [hn.2.2.1]
                      refine E_aload_n dX11_joins_135 rfl ?_
                      refine GX11_7 sk_203 dX11_joins_136 ?_
                      refine E_bipush dX11_joins_139 ?_
                      refine E_iload_n dX11_joins_141 rfl ?_
                      refine E_imul dX11_joins_142 ?_
                      refine E_iconst dX11_joins_143 ?_
                      refine E_iadd dX11_joins_144 ?_
                      refine H_iald sk_204 dX11_joins_145 ?_
                      rw [hm.2.2.1]
                      refine E_iadd dX11_joins_146 ?_
                      refine E_callVV dX11_joins_147 lkX11_96 (Hp_get sk_203) (m_begin) ?_
                      rintro μ1 ⟨a1, a2⟩
                      refine E_iconst dX11_joins_150 ?_
                      refine E_istore dX11_joins_151 ?_
                      first | (exfalso; omega) | exact fin _ _ μ1 (.retAddr 0) (by omega) (by split <;> split <;> omega) a1 a2
                    · -- 110
                      refine E_iconst dX11_joins_110 ?_
                      refine E_goto 115 dX11_joins_111 ?_
                      refine E_imul dX11_joins_115 ?_
                      refine E_iadd dX11_joins_116 ?_
                      refine E_istore dX11_joins_117 ?_
                      refine E_aload_n dX11_joins_119 rfl ?_
                      refine E_iload dX11_joins_120 rfl ?_
                      refine E_iload dX11_joins_122 rfl ?_
                      refine E_aload_n dX11_joins_124 rfl ?_
                      refine GX11_7 sk_203 dX11_joins_125 ?_
                      refine E_bipush dX11_joins_128 ?_
                      refine E_iload_n dX11_joins_130 rfl ?_
                      refine E_imul dX11_joins_131 ?_
                      refine E_iconst dX11_joins_132 ?_
                      refine E_iadd dX11_joins_133 ?_
                      refine H_iald sk_204 dX11_joins_134 ?_
                      rw [hn.2.2.1]
                      refine E_aload_n dX11_joins_135 rfl ?_
                      refine GX11_7 sk_203 dX11_joins_136 ?_
                      refine E_bipush dX11_joins_139 ?_
                      refine E_iload_n dX11_joins_141 rfl ?_
                      refine E_imul dX11_joins_142 ?_
                      refine E_iconst dX11_joins_143 ?_
                      refine E_iadd dX11_joins_144 ?_
                      refine H_iald sk_204 dX11_joins_145 ?_
                      rw [hm.2.2.1]
                      refine E_iadd dX11_joins_146 ?_
                      refine E_callVV dX11_joins_147 lkX11_96 (Hp_get sk_203) (m_begin) ?_
                      rintro μ1 ⟨a1, a2⟩
                      refine E_iconst dX11_joins_150 ?_
                      refine E_istore dX11_joins_151 ?_
                      first | (exfalso; omega) | exact fin _ _ μ1 (.retAddr 0) (by omega) (by split <;> split <;> omega) a1 a2
                  · -- 86
                    refine E_iconst dX11_joins_86 ?_
                    refine E_goto 91 dX11_joins_87 ?_
                    refine E_imul dX11_joins_91 ?_
                    refine E_aload_n dX11_joins_92 rfl ?_
                    refine GX11_7 sk_203 dX11_joins_93 ?_
                    refine E_bipush dX11_joins_96 ?_
                    refine E_iload_n dX11_joins_98 rfl ?_
                    refine E_imul dX11_joins_99 ?_
                    refine E_iconst dX11_joins_100 ?_
                    refine E_iadd dX11_joins_101 ?_
                    refine H_iald sk_204 dX11_joins_102 ?_
                    rw [hm.2.1]
                    refine E_iload dX11_joins_103 rfl ?_
                    refine E_iload dX11_joins_105 rfl ?_
                    refine E_icmp_ge 114 dX11_joins_107 (fun h107 => ?_) (fun h107 => ?_)
                    · -- 114
                      refine E_iconst dX11_joins_114 ?_
                      refine E_imul dX11_joins_115 ?_
                      refine E_iadd dX11_joins_116 ?_
                      refine E_istore dX11_joins_117 ?_
                      refine E_aload_n dX11_joins_119 rfl ?_
                      refine E_iload dX11_joins_120 rfl ?_
                      refine E_iload dX11_joins_122 rfl ?_
                      refine E_aload_n dX11_joins_124 rfl ?_
                      refine GX11_7 sk_203 dX11_joins_125 ?_
                      refine E_bipush dX11_joins_128 ?_
                      refine E_iload_n dX11_joins_130 rfl ?_
                      refine E_imul dX11_joins_131 ?_
                      refine E_iconst dX11_joins_132 ?_
                      refine E_iadd dX11_joins_133 ?_
                      refine H_iald sk_204 dX11_joins_134 ?_
                      rw [hn.2.2.1]
                      refine E_aload_n dX11_joins_135 rfl ?_
                      refine GX11_7 sk_203 dX11_joins_136 ?_
                      refine E_bipush dX11_joins_139 ?_
                      refine E_iload_n dX11_joins_141 rfl ?_
                      refine E_imul dX11_joins_142 ?_
                      refine E_iconst dX11_joins_143 ?_
                      refine E_iadd dX11_joins_144 ?_
                      refine H_iald sk_204 dX11_joins_145 ?_
                      rw [hm.2.2.1]
                      refine E_iadd dX11_joins_146 ?_
                      refine E_callVV dX11_joins_147 lkX11_96 (Hp_get sk_203) (m_begin) ?_
                      rintro μ1 ⟨a1, a2⟩
                      refine E_iconst dX11_joins_150 ?_
                      refine E_istore dX11_joins_151 ?_
                      first | (exfalso; omega) | exact fin _ _ μ1 (.retAddr 0) (by omega) (by split <;> split <;> omega) a1 a2
                    · -- 110
                      refine E_iconst dX11_joins_110 ?_
                      refine E_goto 115 dX11_joins_111 ?_
                      refine E_imul dX11_joins_115 ?_
                      refine E_iadd dX11_joins_116 ?_
                      refine E_istore dX11_joins_117 ?_
                      refine E_aload_n dX11_joins_119 rfl ?_
                      refine E_iload dX11_joins_120 rfl ?_
                      refine E_iload dX11_joins_122 rfl ?_
                      refine E_aload_n dX11_joins_124 rfl ?_
                      refine GX11_7 sk_203 dX11_joins_125 ?_
                      refine E_bipush dX11_joins_128 ?_
                      refine E_iload_n dX11_joins_130 rfl ?_
                      refine E_imul dX11_joins_131 ?_
                      refine E_iconst dX11_joins_132 ?_
                      refine E_iadd dX11_joins_133 ?_
                      refine H_iald sk_204 dX11_joins_134 ?_
                      rw [hn.2.2.1]
                      refine E_aload_n dX11_joins_135 rfl ?_
                      refine GX11_7 sk_203 dX11_joins_136 ?_
                      refine E_bipush dX11_joins_139 ?_
                      refine E_iload_n dX11_joins_141 rfl ?_
                      refine E_imul dX11_joins_142 ?_
                      refine E_iconst dX11_joins_143 ?_
                      refine E_iadd dX11_joins_144 ?_
                      refine H_iald sk_204 dX11_joins_145 ?_
                      rw [hm.2.2.1]
                      refine E_iadd dX11_joins_146 ?_
                      refine E_callVV dX11_joins_147 lkX11_96 (Hp_get sk_203) (m_begin) ?_
                      rintro μ1 ⟨a1, a2⟩
                      refine E_iconst dX11_joins_150 ?_
                      refine E_istore dX11_joins_151 ?_
                      first | (exfalso; omega) | exact fin _ _ μ1 (.retAddr 0) (by omega) (by split <;> split <;> omega) a1 a2
                · -- 61
                  refine E_iconst dX11_joins_61 ?_
                  refine E_goto 66 dX11_joins_62 ?_
                  refine E_istore dX11_joins_66 ?_
                  refine E_aload_n dX11_joins_68 rfl ?_
                  refine GX11_7 sk_203 dX11_joins_69 ?_
                  refine E_bipush dX11_joins_72 ?_
                  refine E_iload_n dX11_joins_74 rfl ?_
                  refine E_imul dX11_joins_75 ?_
                  refine E_iconst dX11_joins_76 ?_
                  refine E_iadd dX11_joins_77 ?_
                  refine H_iald sk_204 dX11_joins_78 ?_
                  rw [hn.2.1]
                  refine E_iload dX11_joins_79 rfl ?_
                  refine E_iload dX11_joins_81 rfl ?_
                  refine E_icmp_ge 90 dX11_joins_83 (fun h83 => ?_) (fun h83 => ?_)
                  · -- 90
                    refine E_iconst dX11_joins_90 ?_
                    refine E_imul dX11_joins_91 ?_
                    refine E_aload_n dX11_joins_92 rfl ?_
                    refine GX11_7 sk_203 dX11_joins_93 ?_
                    refine E_bipush dX11_joins_96 ?_
                    refine E_iload_n dX11_joins_98 rfl ?_
                    refine E_imul dX11_joins_99 ?_
                    refine E_iconst dX11_joins_100 ?_
                    refine E_iadd dX11_joins_101 ?_
                    refine H_iald sk_204 dX11_joins_102 ?_
                    rw [hm.2.1]
                    refine E_iload dX11_joins_103 rfl ?_
                    refine E_iload dX11_joins_105 rfl ?_
                    refine E_icmp_ge 114 dX11_joins_107 (fun h107 => ?_) (fun h107 => ?_)
                    · -- 114
                      refine E_iconst dX11_joins_114 ?_
                      refine E_imul dX11_joins_115 ?_
                      refine E_iadd dX11_joins_116 ?_
                      refine E_istore dX11_joins_117 ?_
                      refine E_aload_n dX11_joins_119 rfl ?_
                      refine E_iload dX11_joins_120 rfl ?_
                      refine E_iload dX11_joins_122 rfl ?_
                      refine E_aload_n dX11_joins_124 rfl ?_
                      refine GX11_7 sk_203 dX11_joins_125 ?_
                      refine E_bipush dX11_joins_128 ?_
                      refine E_iload_n dX11_joins_130 rfl ?_
                      refine E_imul dX11_joins_131 ?_
                      refine E_iconst dX11_joins_132 ?_
                      refine E_iadd dX11_joins_133 ?_
                      refine H_iald sk_204 dX11_joins_134 ?_
                      rw [hn.2.2.1]
                      refine E_aload_n dX11_joins_135 rfl ?_
                      refine GX11_7 sk_203 dX11_joins_136 ?_
                      refine E_bipush dX11_joins_139 ?_
                      refine E_iload_n dX11_joins_141 rfl ?_
                      refine E_imul dX11_joins_142 ?_
                      refine E_iconst dX11_joins_143 ?_
                      refine E_iadd dX11_joins_144 ?_
                      refine H_iald sk_204 dX11_joins_145 ?_
                      rw [hm.2.2.1]
                      refine E_iadd dX11_joins_146 ?_
                      refine E_callVV dX11_joins_147 lkX11_96 (Hp_get sk_203) (m_begin) ?_
                      rintro μ1 ⟨a1, a2⟩
                      refine E_iconst dX11_joins_150 ?_
                      refine E_istore dX11_joins_151 ?_
                      first | (exfalso; omega) | exact fin _ _ μ1 (.retAddr 0) (by omega) (by split <;> split <;> omega) a1 a2
                    · -- 110
                      refine E_iconst dX11_joins_110 ?_
                      refine E_goto 115 dX11_joins_111 ?_
                      refine E_imul dX11_joins_115 ?_
                      refine E_iadd dX11_joins_116 ?_
                      refine E_istore dX11_joins_117 ?_
                      refine E_aload_n dX11_joins_119 rfl ?_
                      refine E_iload dX11_joins_120 rfl ?_
                      refine E_iload dX11_joins_122 rfl ?_
                      refine E_aload_n dX11_joins_124 rfl ?_
                      refine GX11_7 sk_203 dX11_joins_125 ?_
                      refine E_bipush dX11_joins_128 ?_
                      refine E_iload_n dX11_joins_130 rfl ?_
                      refine E_imul dX11_joins_131 ?_
                      refine E_iconst dX11_joins_132 ?_
                      refine E_iadd dX11_joins_133 ?_
                      refine H_iald sk_204 dX11_joins_134 ?_
                      rw [hn.2.2.1]
                      refine E_aload_n dX11_joins_135 rfl ?_
                      refine GX11_7 sk_203 dX11_joins_136 ?_
                      refine E_bipush dX11_joins_139 ?_
                      refine E_iload_n dX11_joins_141 rfl ?_
                      refine E_imul dX11_joins_142 ?_
                      refine E_iconst dX11_joins_143 ?_
                      refine E_iadd dX11_joins_144 ?_
                      refine H_iald sk_204 dX11_joins_145 ?_
                      rw [hm.2.2.1]
                      refine E_iadd dX11_joins_146 ?_
                      refine E_callVV dX11_joins_147 lkX11_96 (Hp_get sk_203) (m_begin) ?_
                      rintro μ1 ⟨a1, a2⟩
                      refine E_iconst dX11_joins_150 ?_
                      refine E_istore dX11_joins_151 ?_
                      first | (exfalso; omega) | exact fin _ _ μ1 (.retAddr 0) (by omega) (by split <;> split <;> omega) a1 a2
                  · -- 86
                    refine E_iconst dX11_joins_86 ?_
                    refine E_goto 91 dX11_joins_87 ?_
                    refine E_imul dX11_joins_91 ?_
                    refine E_aload_n dX11_joins_92 rfl ?_
                    refine GX11_7 sk_203 dX11_joins_93 ?_
                    refine E_bipush dX11_joins_96 ?_
                    refine E_iload_n dX11_joins_98 rfl ?_
                    refine E_imul dX11_joins_99 ?_
                    refine E_iconst dX11_joins_100 ?_
                    refine E_iadd dX11_joins_101 ?_
                    refine H_iald sk_204 dX11_joins_102 ?_
                    rw [hm.2.1]
                    refine E_iload dX11_joins_103 rfl ?_
                    refine E_iload dX11_joins_105 rfl ?_
                    refine E_icmp_ge 114 dX11_joins_107 (fun h107 => ?_) (fun h107 => ?_)
                    · -- 114
                      refine E_iconst dX11_joins_114 ?_
                      refine E_imul dX11_joins_115 ?_
                      refine E_iadd dX11_joins_116 ?_
                      refine E_istore dX11_joins_117 ?_
                      refine E_aload_n dX11_joins_119 rfl ?_
                      refine E_iload dX11_joins_120 rfl ?_
                      refine E_iload dX11_joins_122 rfl ?_
                      refine E_aload_n dX11_joins_124 rfl ?_
                      refine GX11_7 sk_203 dX11_joins_125 ?_
                      refine E_bipush dX11_joins_128 ?_
                      refine E_iload_n dX11_joins_130 rfl ?_
                      refine E_imul dX11_joins_131 ?_
                      refine E_iconst dX11_joins_132 ?_
                      refine E_iadd dX11_joins_133 ?_
                      refine H_iald sk_204 dX11_joins_134 ?_
                      rw [hn.2.2.1]
                      refine E_aload_n dX11_joins_135 rfl ?_
                      refine GX11_7 sk_203 dX11_joins_136 ?_
                      refine E_bipush dX11_joins_139 ?_
                      refine E_iload_n dX11_joins_141 rfl ?_
                      refine E_imul dX11_joins_142 ?_
                      refine E_iconst dX11_joins_143 ?_
                      refine E_iadd dX11_joins_144 ?_
                      refine H_iald sk_204 dX11_joins_145 ?_
                      rw [hm.2.2.1]
                      refine E_iadd dX11_joins_146 ?_
                      refine E_callVV dX11_joins_147 lkX11_96 (Hp_get sk_203) (m_begin) ?_
                      rintro μ1 ⟨a1, a2⟩
                      refine E_iconst dX11_joins_150 ?_
                      refine E_istore dX11_joins_151 ?_
                      first | (exfalso; omega) | exact fin _ _ μ1 (.retAddr 0) (by omega) (by split <;> split <;> omega) a1 a2
                    · -- 110
                      refine E_iconst dX11_joins_110 ?_
                      refine E_goto 115 dX11_joins_111 ?_
                      refine E_imul dX11_joins_115 ?_
                      refine E_iadd dX11_joins_116 ?_
                      refine E_istore dX11_joins_117 ?_
                      refine E_aload_n dX11_joins_119 rfl ?_
                      refine E_iload dX11_joins_120 rfl ?_
                      refine E_iload dX11_joins_122 rfl ?_
                      refine E_aload_n dX11_joins_124 rfl ?_
                      refine GX11_7 sk_203 dX11_joins_125 ?_
                      refine E_bipush dX11_joins_128 ?_
                      refine E_iload_n dX11_joins_130 rfl ?_
                      refine E_imul dX11_joins_131 ?_
                      refine E_iconst dX11_joins_132 ?_
                      refine E_iadd dX11_joins_133 ?_
                      refine H_iald sk_204 dX11_joins_134 ?_
                      rw [hn.2.2.1]
                      refine E_aload_n dX11_joins_135 rfl ?_
                      refine GX11_7 sk_203 dX11_joins_136 ?_
                      refine E_bipush dX11_joins_139 ?_
                      refine E_iload_n dX11_joins_141 rfl ?_
                      refine E_imul dX11_joins_142 ?_
                      refine E_iconst dX11_joins_143 ?_
                      refine E_iadd dX11_joins_144 ?_
                      refine H_iald sk_204 dX11_joins_145 ?_
                      rw [hm.2.2.1]
                      refine E_iadd dX11_joins_146 ?_
                      refine E_callVV dX11_joins_147 lkX11_96 (Hp_get sk_203) (m_begin) ?_
                      rintro μ1 ⟨a1, a2⟩
                      refine E_iconst dX11_joins_150 ?_
                      refine E_istore dX11_joins_151 ?_
                      first | (exfalso; omega) | exact fin _ _ μ1 (.retAddr 0) (by omega) (by split <;> split <;> omega) a1 a2
            · -- 21
              first | exact absurd h4 (by decide) | exact absurd h11 (by decide) | exact absurd h18 (by decide)
      · rw [cif_neg q3] at hsk
        rw [bad (fun h => q3 h.2.2)]
        refine E_iload_n dX11_joins_0 rfl ?_
        refine E_callSR dX11_joins_1 lkX11_147 (hsi) ?_
        refine E_if_eq 21 dX11_joins_4 (fun h4 => ?_) (fun h4 => ?_)
        · -- 21
          refine E_iconst dX11_joins_21 ?_
          refine E_iret dX11_joins_22 ?_
          exact ⟨rfl, _, rfl, hM, fun _ _ => rfl⟩
        · -- 7
          refine E_iload_n dX11_joins_7 rfl ?_
          refine E_callSR dX11_joins_8 lkX11_147 (hsj) ?_
          refine E_if_eq 21 dX11_joins_11 (fun h11 => ?_) (fun h11 => ?_)
          · -- 21
            refine E_iconst dX11_joins_21 ?_
            refine E_iret dX11_joins_22 ?_
            exact ⟨rfl, _, rfl, hM, fun _ _ => rfl⟩
          · -- 14
            refine E_iload_n dX11_joins_14 rfl ?_
            refine E_callSR dX11_joins_15 lkX11_147 (hsk) ?_
            refine E_if_ne 23 dX11_joins_18 (fun h18 => ?_) (fun h18 => ?_)
            · -- 23
              exact absurd rfl h18
            · -- 21
              refine E_iconst dX11_joins_21 ?_
              refine E_iret dX11_joins_22 ?_
              exact ⟨rfl, _, rfl, hM, fun _ _ => rfl⟩
    · rw [cif_neg q2] at hsj
      rw [bad (fun h => q2 h.2.1)]
      refine E_iload_n dX11_joins_0 rfl ?_
      refine E_callSR dX11_joins_1 lkX11_147 (hsi) ?_
      refine E_if_eq 21 dX11_joins_4 (fun h4 => ?_) (fun h4 => ?_)
      · -- 21
        refine E_iconst dX11_joins_21 ?_
        refine E_iret dX11_joins_22 ?_
        exact ⟨rfl, _, rfl, hM, fun _ _ => rfl⟩
      · -- 7
        refine E_iload_n dX11_joins_7 rfl ?_
        refine E_callSR dX11_joins_8 lkX11_147 (hsj) ?_
        refine E_if_eq 21 dX11_joins_11 (fun h11 => ?_) (fun h11 => ?_)
        · -- 21
          refine E_iconst dX11_joins_21 ?_
          refine E_iret dX11_joins_22 ?_
          exact ⟨rfl, _, rfl, hM, fun _ _ => rfl⟩
        · -- 14
          exact absurd rfl h11
  · rw [cif_neg q1] at hsi
    rw [bad (fun h => q1 h.1)]
    refine E_iload_n dX11_joins_0 rfl ?_
    refine E_callSR dX11_joins_1 lkX11_147 (hsi) ?_
    refine E_if_eq 21 dX11_joins_4 (fun h4 => ?_) (fun h4 => ?_)
    · -- 21
      refine E_iconst dX11_joins_21 ?_
      refine E_iret dX11_joins_22 ?_
      exact ⟨rfl, _, rfl, hM, fun _ _ => rfl⟩
    · -- 7
      exact absurd rfl h4
end MJOINS
