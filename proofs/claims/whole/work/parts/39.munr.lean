/-! FibredSpacesModel: unrolls -/
theorem insR_perm (x : Fib) : ∀ l : List Fib, (insR x l).Perm (x :: l)
  | [] => List.Perm.refl _
  | y :: t => by
    unfold insR
    split
    · exact ((insR_perm x t).cons y).trans (List.Perm.swap x y t)
    · exact List.Perm.refl _
theorem ins_perm (x : Fib) (l : List Fib) : (ins x l).Perm (x :: l) := by
  unfold ins
  exact (List.reverse_perm _).trans ((insR_perm x l.reverse).trans ((List.reverse_perm l).cons x))
theorem gtP_anti {x y : Fib} (h1 : gtP x y = false) (h2 : gtP y x = false) : x = y := by
  simp only [gtP, Bool.or_eq_false_iff, decide_eq_false_iff_not, Bool.and_eq_false_iff] at *
  exact Prod.ext (by omega) (by omega)
theorem srt_eq {l l' : List Fib} (h1 : srt l) (h2 : srt l') (h : l.Perm l') : l = l' := List.Perm.eq_of_pairwise (fun a b _ _ x y => gtP_anti x y) h1 h2 h
theorem put_1 {k g z : Int} {p : List Fib} {x : Fib} (hx : fibOk x) : put (k, g, z, p) x.1 (x.2 * 1) = (k, g, z, ins x p) := by
  obtain ⟨x1, x2, x3, x4, -⟩ := hx
  have e1 : x.2 * 1 / x.1 = 0 := by rw [Int.mul_one]; exact Int.ediv_eq_zero_of_lt (by omega) (by omega)
  have e2 : x.2 * 1 % x.1 = x.2 := by rw [Int.mul_one]; exact Int.emod_eq_of_lt (by omega) (by omega)
  simp only [put]
  rw [e1, e2, if_pos (by omega), show ((x.1, x.2) : Fib) = x from rfl, Int.add_zero]
theorem putAll_perm {k g z : Int} : ∀ (q p : List Fib), (∀ x ∈ q, fibOk x) → srt p → ∃ L, putAll (k, g, z, p) q 1 = (k, g, z, L) ∧ L.Perm (p ++ q) ∧ srt L
  | [], p, _, hp => ⟨p, rfl, by simp, hp⟩
  | x :: q, p, hq, hp => by
    obtain ⟨L, h1, h2, h3⟩ := putAll_perm (k := k) (g := g) (z := z) q (ins x p) (fun y hy => hq y (List.mem_cons_of_mem _ hy)) (ins_srt hp)
    refine ⟨L, ?_, h2.trans ?_, h3⟩
    · rw [show putAll (k, g, z, p) (x :: q) 1 = putAll (put (k, g, z, p) x.1 (x.2 * 1)) q 1 from rfl, put_1 (hq x List.mem_cons_self)]; exact h1
    · exact ((ins_perm x p).append_right q).trans List.perm_middle.symm
def reps (l : List Fib) : Nat → List Fib
  | 0 => []
  | n + 1 => l ++ reps l n
theorem cov_perm {k g z : Int} {l : List Fib} (hl : ∀ x ∈ l, fibOk x) : ∀ (n : Nat) (p : List Fib), srt p → ∃ L, cov n l (k, g, z, p) = (k, g, z, L) ∧ L.Perm (p ++ reps l n) ∧ srt L
  | 0, p, hp => ⟨p, rfl, by simp [reps], hp⟩
  | n + 1, p, hp => by
    obtain ⟨L1, a1, a2, a3⟩ := putAll_perm (k := k) (g := g) (z := z) l p hl hp
    obtain ⟨L, h1, h2, h3⟩ := cov_perm (k := k) (g := g) (z := z) hl n L1 a3
    refine ⟨L, ?_, h2.trans ?_, h3⟩
    · rw [show cov (n + 1) l (k, g, z, p) = cov n l (putAll (k, g, z, p) l 1) from rfl, a1]; exact h1
    · rw [reps, ← List.append_assoc]; exact a2.append_right _
def rpE : List Fib → Nat → List Fib
  | [], _ => []
  | x :: l, d => List.replicate d x ++ rpE l d
theorem rpE_zero : ∀ l : List Fib, rpE l 0 = []
  | [] => rfl
  | x :: l => by simp [rpE, rpE_zero l]
theorem rpE_succ (d : Nat) : ∀ l : List Fib, (rpE l (d + 1)).Perm (l ++ rpE l d)
  | [] => List.Perm.refl _
  | x :: l => by
    simp only [rpE, List.replicate_succ, List.cons_append]
    refine List.Perm.cons x ?_
    exact ((rpE_succ d l).append_left _).trans (List.perm_append_comm_assoc _ _ _)
theorem rpE_reps (l : List Fib) : ∀ d : Nat, (rpE l d).Perm (reps l d)
  | 0 => by rw [rpE_zero, reps]
  | d + 1 => (rpE_succ d l).trans ((rpE_reps l d).append_left l)
theorem rpE_len : ∀ (l : List Fib) (d : Nat), (rpE l d).length = d * l.length
  | [], d => by simp [rpE]
  | x :: l, d => by simp [rpE, rpE_len l d, Nat.mul_add]; omega
theorem rpE_get {d : Nat} (hd : 0 < d) : ∀ (l : List Fib) (j : Nat), (rpE l d)[j]? = l[j / d]?
  | [], j => by simp [rpE]
  | x :: l, j => by
    simp only [rpE]
    by_cases h : j < d
    · rw [List.getElem?_append_left (by simpa using h), Nat.div_eq_of_lt h, List.getElem?_replicate, if_pos h]; rfl
    · rw [List.getElem?_append_right (by simp; omega), List.length_replicate, rpE_get hd l (j - d)]
      have e : j / d = (j - d) / d + 1 := by
        have : j = (j - d) + d := by omega
        conv => lhs; rw [this]
        exact Nat.add_div_right _ hd
      rw [e, List.getElem?_cons_succ]
theorem rpE_mem {d : Nat} {x : Fib} : ∀ {l : List Fib}, x ∈ rpE l d → x ∈ l
  | [], h => by simp [rpE] at h
  | y :: l, h => by
    rcases List.mem_append.mp h with h | h
    · rw [(List.mem_replicate.mp h).2]; exact List.mem_cons_self
    · exact List.mem_cons_of_mem _ (rpE_mem h)
theorem cov_rpE {k g z : Int} {l : List Fib} (hl : ∀ x ∈ l, fibOk x) (d : Nat) : putAll (k, g, z, []) (rpE l d) 1 = cov d l (k, g, z, []) := by
  obtain ⟨L, h1, h2, h3⟩ := cov_perm (k := k) (g := g) (z := z) hl d [] List.Pairwise.nil
  obtain ⟨L', a1, a2, a3⟩ := putAll_perm (k := k) (g := g) (z := z) (rpE l d) [] (fun x hx => hl x (rpE_mem hx)) List.Pairwise.nil
  rw [h1, a1, srt_eq a3 h3 ((a2.trans ((rpE_reps l d).append_left [])).trans h2.symm)]
section MUNR
variable {G : GT} {μ : Mem} {M : HV} {σ : St}
theorem unr_loop {i c3 c4 : Int} {d : Nat} {s : Sp} {Q : QT} (hi : isS i) (hd : d = 2 ∨ d = 3) (hs : RepN μ 204 (16 * i) s) (hok : spOk s) : ∀ (q p : List Fib) (e : Sp) (μ' : Mem), p ++ q = rpE s.2.2.2 d → RepB μ' e → (∀ y ∈ e.2.2.2, smF y) → e.2.2.2.length ≤ p.length → OffB μ μ' →
    (∀ (μ2 : Mem) (w : Value), RepB μ2 (putAll e q 1) → OffB μ μ2 → E G mX11_unrolls (Zq G mX11_unrolls Q) 0 0 130 [.ref 203, vi i, vi (d : Int), vi c3, vi c4, w] [] (Hp μ2)) →
    E G mX11_unrolls (Zq G mX11_unrolls Q) 0 0 90 [.ref 203, vi i, vi (d : Int), vi c3, vi c4, vi (p.length : Int)] [] (Hp μ') := by
  have hb := hok.2.2.2.2.2.1
  have j1 := hi.1
  have j2 := hi.2
  have hmu : (d : Int) * (s.2.2.2.length : Int) = ((rpE s.2.2.2 d).length : Int) := by rw [rpE_len]; simp
  have hle : (rpE s.2.2.2 d).length ≤ 18 := by
    rw [rpE_len]
    rcases hd with rfl | rfl <;> omega
  intro q
  induction q with
  | nil =>
    intro p e μ' h1 h2 h3 hl h4 hk
    have hs' := hs.kept h4.now
    have hp : p.length = (rpE s.2.2.2 d).length := by rw [← h1]; simp
    refine E_iload dX11_unrolls_90 rfl ?_
    refine E_iload_n dX11_unrolls_92 rfl ?_
    refine E_aload_n dX11_unrolls_93 rfl ?_
    refine E_iload_n dX11_unrolls_94 rfl ?_
    refine E_callVR dX11_unrolls_95 lkX11_100 (Hp_get sk_203) (m_fibres hi hs') ?_
    refine E_imul dX11_unrolls_98 ?_
    rw [hmu]
    refine E_icmp_ge 130 dX11_unrolls_99 (fun h99 => ?_) (fun h99 => ?_)
    · -- 130
      exact hk μ' _ h2 h4
    · -- 102
      exfalso; omega
  | cons x q ih =>
    intro p e μ' h1 h2 h3 hl h4 hk
    have hs' := hs.kept h4.now
    have hp : p.length + 1 + q.length = (rpE s.2.2.2 d).length := by rw [← h1]; simp; omega
    have hg : s.2.2.2[p.length / d]? = some x := by rw [← rpE_get (by omega), ← h1]; simp
    obtain ⟨x1, x2, x3, x4, -⟩ := hok.2.2.2.2.2.2 x (List.mem_of_getElem? hg)
    have hlt : p.length / d < s.2.2.2.length := (List.getElem?_eq_some_iff.mp hg).1
    have hdv : (p.length : Int).tdiv (d : Int) = ((p.length / d : Nat) : Int) := by rw [Int.tdiv_eq_ediv_of_nonneg (by omega)]; simp
    rw [show putAll e (x :: q) 1 = putAll (put e x.1 (x.2 * 1)) q 1 from rfl, Int.mul_one] at hk
    refine E_iload dX11_unrolls_90 rfl ?_
    refine E_iload_n dX11_unrolls_92 rfl ?_
    refine E_aload_n dX11_unrolls_93 rfl ?_
    refine E_iload_n dX11_unrolls_94 rfl ?_
    refine E_callVR dX11_unrolls_95 lkX11_100 (Hp_get sk_203) (m_fibres hi hs') ?_
    refine E_imul dX11_unrolls_98 ?_
    rw [hmu]
    refine E_icmp_ge 130 dX11_unrolls_99 (fun h99 => ?_) (fun h99 => ?_)
    · -- 130
      exfalso; omega
    · -- 102
      refine E_aload_n dX11_unrolls_102 rfl ?_
      refine E_aload_n dX11_unrolls_103 rfl ?_
      refine E_iload_n dX11_unrolls_104 rfl ?_
      refine E_iload dX11_unrolls_105 rfl ?_
      refine E_iload_n dX11_unrolls_107 rfl ?_
      refine E_idiv dX11_unrolls_108 ?_
      rw [hdv]
      refine E_callVR dX11_unrolls_109 lkX11_90 (Hp_get sk_203) (m_a hi hs' (by omega) hg) ?_
      refine E_aload_n dX11_unrolls_112 rfl ?_
      refine E_iload_n dX11_unrolls_113 rfl ?_
      refine E_iload dX11_unrolls_114 rfl ?_
      refine E_iload_n dX11_unrolls_116 rfl ?_
      refine E_idiv dX11_unrolls_117 ?_
      rw [hdv]
      refine E_callVR dX11_unrolls_118 lkX11_93 (Hp_get sk_203) (m_b hi hs' (by omega) hg) ?_
      refine E_callVV dX11_unrolls_121 lkX11_104 (Hp_get sk_203) (m_add (a := x.1) (b := x.2) h2 (by omega) (by omega) h3 (by omega)) ?_
      rintro μ2 ⟨g1, g2⟩
      have t := ih (p ++ [x]) _ μ2 (by rw [← h1]; simp) g1 (smF_put (by omega) h3) (by have := putm_len (d := e) (a := x.1) (b := x.2); simp; omega) (h4.tr g2) hk
      rw [show ((p ++ [x]).length : Int) = (p.length : Int) + 1 by simp] at t
      refine E_iinc dX11_unrolls_124 rfl ?_
      refine E_goto 90 dX11_unrolls_127 ?_
      exact t
theorem m_unrolls {i d : Int} (hi : -2147483648 ≤ i ∧ i < 2147483648) (hd : -2147483648 ≤ d ∧ d < 2147483648) (hM : RepM μ σ) (hok : stOk σ) : Ctr G mX11_unrolls [.ref 203, vi i, vi d] (Hp μ) (NQ μ (sUnrolls σ i d)) := by
  refine Ctr.of ?_
  have hsi := m_isSpace (G := G) (M := Hp μ) hi
  have hin := m_in (G := G) (M := Hp μ) (v := d) (lo := 2) (hi := 3) (by omega) (by omega) (by omega)
  by_cases q1 : isS i
  · rw [cif_pos q1] at hsi
    have j1 := q1.1
    have j2 := q1.2
    have hn := rn_at q1 hM.1
    have ho := ok_at q1 hok.1
    obtain ⟨o0, o1, o2, o3, o4, o5, o6⟩ := id ho
    by_cases q2 : 2 ≤ d ∧ d ≤ 3
    · rw [cif_pos q2] at hin
      rw [show sUnrolls σ i d = _ from cif_neg (not_not_intro ⟨q1, q2⟩)]
      by_cases q3 : (σ.1 i.toNat).2.1 < (σ.1 i.toNat).1 + 1
      · rw [cif_pos q3]
        refine E_iload_n dX11_unrolls_0 rfl ?_
        refine E_callSR dX11_unrolls_1 lkX11_147 (hsi) ?_
        refine E_if_eq 21 dX11_unrolls_4 (fun h4 => ?_) (fun h4 => ?_)
        · -- 21
          first | exact absurd h4 (by decide) | exact absurd h18 (by decide)
        · -- 7
          refine E_iload_n dX11_unrolls_7 rfl ?_
          refine E_i2l dX11_unrolls_8 ?_
          refine E_ldc2 dX11_unrolls_9 coX11_174 ?_
          refine E_ldc2 dX11_unrolls_12 coX11_181 ?_
          refine E_callSR dX11_unrolls_15 lkX11_63 (hin) ?_
          refine E_if_ne 23 dX11_unrolls_18 (fun h18 => ?_) (fun h18 => ?_)
          · -- 23
            refine E_aload_n dX11_unrolls_23 rfl ?_
            refine GX11_7 sk_203 dX11_unrolls_24 ?_
            refine E_bipush dX11_unrolls_27 ?_
            refine E_iload_n dX11_unrolls_29 rfl ?_
            refine E_imul dX11_unrolls_30 ?_
            refine E_iconst dX11_unrolls_31 ?_
            refine E_iadd dX11_unrolls_32 ?_
            rw [Int.add_zero]
            refine H_iald sk_204 dX11_unrolls_33 ?_
            rw [hn.1]
            refine E_istore_n dX11_unrolls_34 ?_
            refine E_aload_n dX11_unrolls_35 rfl ?_
            refine GX11_7 sk_203 dX11_unrolls_36 ?_
            refine E_bipush dX11_unrolls_39 ?_
            refine E_iload_n dX11_unrolls_41 rfl ?_
            refine E_imul dX11_unrolls_42 ?_
            refine E_iconst dX11_unrolls_43 ?_
            refine E_iadd dX11_unrolls_44 ?_
            refine H_iald sk_204 dX11_unrolls_45 ?_
            rw [hn.2.1]
            refine E_istore dX11_unrolls_46 ?_
            refine E_iload dX11_unrolls_48 rfl ?_
            refine E_iload_n dX11_unrolls_50 rfl ?_
            refine E_icmp_gt 57 dX11_unrolls_51 (fun h51 => ?_) (fun h51 => ?_)
            · -- 57
              exfalso; omega
            · -- 54
              refine E_bipush dX11_unrolls_54 ?_
              refine E_iret dX11_unrolls_56 ?_
              exact ⟨rfl, _, rfl, hM, fun _ _ => rfl⟩
          · -- 21
            first | exact absurd h4 (by decide) | exact absurd h18 (by decide)
      · rw [cif_neg q3]
        obtain ⟨n, rfl⟩ : ∃ n : Nat, d = n := ⟨d.toNat, by omega⟩
        have hn23 : n = 2 ∨ n = 3 := by omega
        rw [show ((n : Nat) : Int).toNat = n by omega]
        have hcov := cov_rpE (k := (σ.1 i.toNat).1) (g := (n : Int) * ((σ.1 i.toNat).2.1 - 1 - (σ.1 i.toNat).1) + 1 + (σ.1 i.toNat).1) (z := (n : Int) * (σ.1 i.toNat).2.2.1) o6 n
        have eD : covD (σ.1 i.toNat) n = putAll ((σ.1 i.toNat).1, (n : Int) * ((σ.1 i.toNat).2.1 - 1 - (σ.1 i.toNat).1) + 1 + (σ.1 i.toNat).1, (n : Int) * (σ.1 i.toNat).2.2.1, []) (rpE (σ.1 i.toNat).2.2.2 n) 1 := by
          rw [hcov]
          unfold covD
          rw [show (n : Int) * ((σ.1 i.toNat).2.1 - 1 - (σ.1 i.toNat).1) + 1 + (σ.1 i.toNat).1 = (n : Int) * ((σ.1 i.toNat).2.1 - ((σ.1 i.toNat).1 + 1)) + ((σ.1 i.toNat).1 + 1) by
            rw [show (σ.1 i.toNat).2.1 - 1 - (σ.1 i.toNat).1 = (σ.1 i.toNat).2.1 - ((σ.1 i.toNat).1 + 1) by omega]; omega, Int.mul_comm (n : Int) (σ.1 i.toNat).2.2.1]
        obtain ⟨L, l1, l2, l3⟩ := putAll_perm (k := (σ.1 i.toNat).1) (g := (n : Int) * ((σ.1 i.toNat).2.1 - 1 - (σ.1 i.toNat).1) + 1 + (σ.1 i.toNat).1) (z := (n : Int) * (σ.1 i.toNat).2.2.1) (rpE (σ.1 i.toNat).2.2.2 n) [] (fun x hx => o6 x (rpE_mem hx)) List.Pairwise.nil
        have ll : L.length ≤ 18 := by
          have := l2.length_eq
          rw [List.nil_append, rpE_len] at this
          rcases hn23 with rfl | rfl <;> omega
        refine E_iload_n dX11_unrolls_0 rfl ?_
        refine E_callSR dX11_unrolls_1 lkX11_147 (hsi) ?_
        refine E_if_eq 21 dX11_unrolls_4 (fun h4 => ?_) (fun h4 => ?_)
        · -- 21
          first | exact absurd h4 (by decide) | exact absurd h18 (by decide)
        · -- 7
          refine E_iload_n dX11_unrolls_7 rfl ?_
          refine E_i2l dX11_unrolls_8 ?_
          refine E_ldc2 dX11_unrolls_9 coX11_174 ?_
          refine E_ldc2 dX11_unrolls_12 coX11_181 ?_
          refine E_callSR dX11_unrolls_15 lkX11_63 (hin) ?_
          refine E_if_ne 23 dX11_unrolls_18 (fun h18 => ?_) (fun h18 => ?_)
          · -- 23
            refine E_aload_n dX11_unrolls_23 rfl ?_
            refine GX11_7 sk_203 dX11_unrolls_24 ?_
            refine E_bipush dX11_unrolls_27 ?_
            refine E_iload_n dX11_unrolls_29 rfl ?_
            refine E_imul dX11_unrolls_30 ?_
            refine E_iconst dX11_unrolls_31 ?_
            refine E_iadd dX11_unrolls_32 ?_
            rw [Int.add_zero]
            refine H_iald sk_204 dX11_unrolls_33 ?_
            rw [hn.1]
            refine E_istore_n dX11_unrolls_34 ?_
            refine E_aload_n dX11_unrolls_35 rfl ?_
            refine GX11_7 sk_203 dX11_unrolls_36 ?_
            refine E_bipush dX11_unrolls_39 ?_
            refine E_iload_n dX11_unrolls_41 rfl ?_
            refine E_imul dX11_unrolls_42 ?_
            refine E_iconst dX11_unrolls_43 ?_
            refine E_iadd dX11_unrolls_44 ?_
            refine H_iald sk_204 dX11_unrolls_45 ?_
            rw [hn.2.1]
            refine E_istore dX11_unrolls_46 ?_
            refine E_iload dX11_unrolls_48 rfl ?_
            refine E_iload_n dX11_unrolls_50 rfl ?_
            refine E_icmp_gt 57 dX11_unrolls_51 (fun h51 => ?_) (fun h51 => ?_)
            · -- 57
              refine E_aload_n dX11_unrolls_57 rfl ?_
              refine E_iload_n dX11_unrolls_58 rfl ?_
              refine E_iload_n dX11_unrolls_59 rfl ?_
              refine E_iload dX11_unrolls_60 rfl ?_
              refine E_iconst dX11_unrolls_62 ?_
              refine E_isub dX11_unrolls_63 ?_
              refine E_iload_n dX11_unrolls_64 rfl ?_
              refine E_isub dX11_unrolls_65 ?_
              refine E_imul dX11_unrolls_66 ?_
              refine E_iconst dX11_unrolls_67 ?_
              refine E_iadd dX11_unrolls_68 ?_
              refine E_iload_n dX11_unrolls_69 rfl ?_
              refine E_iadd dX11_unrolls_70 ?_
              refine E_iload_n dX11_unrolls_71 rfl ?_
              refine E_aload_n dX11_unrolls_72 rfl ?_
              refine GX11_7 sk_203 dX11_unrolls_73 ?_
              refine E_bipush dX11_unrolls_76 ?_
              refine E_iload_n dX11_unrolls_78 rfl ?_
              refine E_imul dX11_unrolls_79 ?_
              refine E_iconst dX11_unrolls_80 ?_
              refine E_iadd dX11_unrolls_81 ?_
              refine H_iald sk_204 dX11_unrolls_82 ?_
              rw [hn.2.2.1]
              refine E_imul dX11_unrolls_83 ?_
              refine E_callVV dX11_unrolls_84 lkX11_96 (Hp_get sk_203) (m_begin) ?_
              rintro μ1 ⟨a1, a2⟩
              refine E_iconst dX11_unrolls_87 ?_
              refine E_istore dX11_unrolls_88 ?_
              refine unr_loop (μ := μ) q1 hn23 hn ho (rpE (σ.1 i.toNat).2.2.2 n) [] _ μ1 rfl a1 (fun y hy => by simp at hy) (by simp) a2 (fun μ2 w g1 g2 => ?_)
              rw [← eD] at g1
              have eL := eD.trans l1
              have f1 : 0 ≤ (n : Int) * ((σ.1 i.toNat).2.1 - 1 - (σ.1 i.toNat).1) + 1 + (σ.1 i.toNat).1 ∧ (n : Int) * ((σ.1 i.toNat).2.1 - 1 - (σ.1 i.toNat).1) + 1 + (σ.1 i.toNat).1 < 1000 := by rcases hn23 with rfl | rfl <;> omega
              have f2 : -2147483648 < (n : Int) * (σ.1 i.toNat).2.2.1 ∧ (n : Int) * (σ.1 i.toNat).2.2.1 < 2147483648 := by rcases hn23 with rfl | rfl <;> omega
              refine layN hM hok q1 g1 ?_ ?_ ?_ g2 dX11_unrolls_130 dX11_unrolls_131 dX11_unrolls_132 dX11_unrolls_133 dX11_unrolls_136 dX11_unrolls_139
              · rw [eL]; exact f2
              · rw [eL]; exact f1
              · rw [eL]; exact (by omega : L.length ≤ 20)
            · -- 54
              exfalso; omega
          · -- 21
            first | exact absurd h4 (by decide) | exact absurd h18 (by decide)
    · rw [cif_neg q2] at hin
      rw [show sUnrolls σ i d = (-1, σ) from cif_pos (fun h => q2 h.2)]
      refine E_iload_n dX11_unrolls_0 rfl ?_
      refine E_callSR dX11_unrolls_1 lkX11_147 (hsi) ?_
      refine E_if_eq 21 dX11_unrolls_4 (fun h4 => ?_) (fun h4 => ?_)
      · -- 21
        refine E_iconst dX11_unrolls_21 ?_
        refine E_iret dX11_unrolls_22 ?_
        exact ⟨rfl, _, rfl, hM, fun _ _ => rfl⟩
      · -- 7
        refine E_iload_n dX11_unrolls_7 rfl ?_
        refine E_i2l dX11_unrolls_8 ?_
        refine E_ldc2 dX11_unrolls_9 coX11_174 ?_
        refine E_ldc2 dX11_unrolls_12 coX11_181 ?_
        refine E_callSR dX11_unrolls_15 lkX11_63 (hin) ?_
        refine E_if_ne 23 dX11_unrolls_18 (fun h18 => ?_) (fun h18 => ?_)
        · -- 23
          exact absurd rfl h18
        · -- 21
          refine E_iconst dX11_unrolls_21 ?_
          refine E_iret dX11_unrolls_22 ?_
          exact ⟨rfl, _, rfl, hM, fun _ _ => rfl⟩
  · rw [cif_neg q1] at hsi
    rw [show sUnrolls σ i d = (-1, σ) from cif_pos (fun h => q1 h.1)]
    refine E_iload_n dX11_unrolls_0 rfl ?_
    refine E_callSR dX11_unrolls_1 lkX11_147 (hsi) ?_
    refine E_if_eq 21 dX11_unrolls_4 (fun h4 => ?_) (fun h4 => ?_)
    · -- 21
      refine E_iconst dX11_unrolls_21 ?_
      refine E_iret dX11_unrolls_22 ?_
      exact ⟨rfl, _, rfl, hM, fun _ _ => rfl⟩
    · -- 7
      exact absurd rfl h4
end MUNR
