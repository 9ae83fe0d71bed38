/-! cut -/
def rct (K : Lay) (s a b : Nat) : Nat → Nat → Nat
  | 0, best => best
  | n + 1, best => rct K s a b n (if (andn n s = 0 ∧ pop n ≤ pop best) ∧ ¬ (rch K (andn s n) a).testBit b = true then n else best)
def cutP (K : Lay) (s a b n : Nat) : Prop := andn n s = 0 ∧ ¬ (rch K (andn s n) a).testBit b = true
def beq (m j : Nat) : Prop := pop m < pop j ∨ (pop m = pop j ∧ m ≤ j)
theorem rct_best {K : Lay} {s a b : Nat} : ∀ n best : Nat, cutP K s a b best → n ≤ best → (∀ j, n ≤ j → j ≤ s → cutP K s a b j → beq best j) → cutP K s a b (rct K s a b n best) ∧ (∀ j, j ≤ s → cutP K s a b j → beq (rct K s a b n best) j) := by
  intro n
  induction n with
  | zero => intro best h1 _ h3; exact ⟨h1, fun j hj => h3 j (Nat.zero_le j) hj⟩
  | succ n ih =>
    intro best h1 h2 h3
    unfold rct
    by_cases q : (andn n s = 0 ∧ pop n ≤ pop best) ∧ ¬ (rch K (andn s n) a).testBit b = true
    · rw [if_pos q]
      refine ih n ⟨q.1.1, q.2⟩ (Nat.le_refl n) (fun j j1 j2 j3 => ?_)
      by_cases z : j = n
      · rw [z]
        exact Or.inr ⟨rfl, Nat.le_refl n⟩
      · have h4 := h3 j (by omega) j2 j3
        have h5 := q.1.2
        unfold beq at h4 ⊢
        omega
    · rw [if_neg q]
      refine ih best h1 (by omega) (fun j j1 j2 j3 => ?_)
      by_cases z : j = n
      · have h5 : ¬ pop n ≤ pop best := fun h => q (by rw [← z]; exact ⟨⟨j3.1, by rw [z]; exact h⟩, j3.2⟩)
        rw [z]
        unfold beq
        omega
      · exact h3 j (by omega) j2 j3
theorem lab_0 {K : Lay} : ∀ (n : Nat) (x : Int), (0 ≤ x ∧ x < 8) → lab K 0 n x = x := by
  intro n
  induction n with
  | zero => intro x hx; exact if_pos hx.2
  | succ n ih =>
    intro x hx
    rw [lab, Nat.zero_testBit, if_neg (by decide)]
    exact ih x hx
theorem andn_self (s : Nat) : andn s s = 0 := bit_ext fun i => by
  rw [andn_bit, Nat.zero_testBit]
  cases s.testBit i <;> rfl
theorem andn_0 (s : Nat) : andn s 0 = s := bit_ext fun i => by
  rw [andn_bit, Nat.zero_testBit]
  cases s.testBit i <;> rfl
theorem ctS_best {K : Lay} (hK : vK K) {s a b : Nat} (ha : (a : Int) < K 0 0) (hb : (b : Int) < K 0 0) : ∀ n : Nat, ((ctS K s a b n = (-4, 9)) ∧ ∀ j, 1 ≤ j → j ≤ n → ¬ cutP K s a b j) ∨ (∃ m : Nat, ctS K s a b n = ((m : Int), pop m) ∧ 1 ≤ m ∧ m ≤ n ∧ cutP K s a b m ∧ ∀ j, 1 ≤ j → j ≤ n → cutP K s a b j → beq m j) := by
  intro n
  induction n with
  | zero => exact Or.inl ⟨rfl, fun j h1 h2 => by omega⟩
  | succ n ih =>
    have hc : cutP K s a b (n + 1) ↔ (andn (n + 1) s = 0 ∧ ¬ labK K (andn s (n + 1)) a = labK K (andn s (n + 1)) b) := by
      unfold cutP
      rw [rch_lab hK ha hb]
    have hp := popN_le (n + 1) 8
    have hp' : pop (n + 1) = popN (n + 1) 8 := rfl
    rw [ctS]
    by_cases q : andn (n + 1) s = 0 ∧ pop (n + 1) < (ctS K s a b n).2 ∧ ¬ labK K (andn s (n + 1)) a = labK K (andn s (n + 1)) b
    · rw [if_pos q]
      refine Or.inr ⟨n + 1, rfl, by omega, Nat.le_refl _, hc.mpr ⟨q.1, q.2.2⟩, fun j j1 j2 j3 => ?_⟩
      by_cases z : j = n + 1
      · rw [z]
        exact Or.inr ⟨rfl, Nat.le_refl _⟩
      · rcases ih with ⟨h1, h2⟩ | ⟨m, h1, h2, h3, h4, h5⟩
        · exact absurd j3 (h2 j j1 (by omega))
        · have h6 := h5 j j1 (by omega) j3
          have h7 := q.2.1
          rw [h1] at h7
          have h7 : pop (n + 1) < pop m := h7
          unfold beq at h6 ⊢
          omega
    · rw [if_neg q]
      rcases ih with ⟨h1, h2⟩ | ⟨m, h1, h2, h3, h4, h5⟩
      · refine Or.inl ⟨h1, fun j j1 j2 j3 => ?_⟩
        by_cases z : j = n + 1
        · rw [z] at j3
          have := hc.mp j3
          apply q
          rw [h1]
          exact ⟨this.1, by show pop (n + 1) < 9; omega, this.2⟩
        · exact h2 j j1 (by omega) j3
      · refine Or.inr ⟨m, h1, h2, by omega, h4, fun j j1 j2 j3 => ?_⟩
        by_cases z : j = n + 1
        · rw [z] at j3 ⊢
          have h6 := hc.mp j3
          have h7 : ¬ pop (n + 1) < pop m := fun h => q ⟨h6.1, by rw [h1]; exact h, h6.2⟩
          unfold beq
          omega
        · exact h5 j j1 (by omega) j3

theorem rct_start {K : Lay} {s a b : Nat} (hcs : cutP K s a b s) : cutP K s a b (rct K s a b (s + 1) s) ∧ (∀ j, j ≤ s → cutP K s a b j → beq (rct K s a b (s + 1) s) j) := by
  have e : rct K s a b (s + 1) s = rct K s a b s s := by
    rw [rct]
    split <;> rfl
  rw [e]
  refine rct_best s s hcs (Nat.le_refl s) (fun j j1 j2 j3 => ?_)
  rw [show j = s from by omega]
  exact Or.inr ⟨rfl, Nat.le_refl s⟩
theorem rct_le {K : Lay} {s a b : Nat} : ∀ n best : Nat, rct K s a b n best ≤ Nat.max n best := by
  intro n
  induction n with
  | zero => intro best; exact Nat.le_max_right 0 best
  | succ n ih =>
    intro best
    unfold rct
    split
    · have := ih n
      simp only [Nat.max_def] at this ⊢
      split at this <;> split <;> omega
    · have := ih best
      simp only [Nat.max_def] at this ⊢
      split at this <;> split <;> omega
theorem cut_same {K : Lay} (hK : vK K) {s a b : Nat} (ha : (a : Int) < K 0 0) (hb : (b : Int) < K 0 0) (hab : a ≠ b) (h : labK K s a = labK K s b) : ((rct K s a b (s + 1) s : Nat) : Int) = (ctS K s a b s).1 := by
  have k0 := hK.1
  have hl0 : ¬ labK K 0 a = labK K 0 b := by
    show ¬ lab K 0 (K 0 1).toNat a = lab K 0 (K 0 1).toNat b
    rw [lab_0 _ _ (by omega), lab_0 _ _ (by omega)]
    omega
  have hcs : cutP K s a b s := ⟨andn_self s, by rw [andn_self, rch_lab hK ha hb]; exact hl0⟩
  have hs0 : 1 ≤ s := by
    rcases Nat.eq_zero_or_pos s with z | z
    · rw [z] at h
      exact absurd h hl0
    · exact z
  obtain ⟨r1, r2⟩ := rct_start hcs
  have r3 : rct K s a b (s + 1) s ≤ s := by
    have e : rct K s a b (s + 1) s = rct K s a b s s := by
      rw [rct]
      split <;> rfl
    have := rct_le (K := K) (s := s) (a := a) (b := b) s s
    simp only [Nat.max_self] at this
    omega
  have r4 : 1 ≤ rct K s a b (s + 1) s := by
    rcases Nat.eq_zero_or_pos (rct K s a b (s + 1) s) with z | z
    · rw [z] at r1
      have := r1.2
      rw [andn_0, rch_lab hK ha hb] at this
      exact absurd h this
    · exact z
  rcases ctS_best hK (s := s) ha hb s with ⟨h1, h2⟩ | ⟨m, h1, h2, h3, h4, h5⟩
  · exact absurd hcs (h2 s hs0 (Nat.le_refl s))
  · have h6 := h5 _ r4 r3 r1
    have h7 := r2 m h3 h4
    rw [h1]
    show ((rct K s a b (s + 1) s : Nat) : Int) = (m : Int)
    have : rct K s a b (s + 1) s = m := by
      unfold beq at h6 h7
      omega
    rw [this]

theorem l174 {nat : gNat} {d : Nat} {w : gWd} {x : Nat} {M K : Lay} (hx : x + 12 < gSTR) (hL : mLaw K (M 5)) (hK : vK K) {s : Nat} (hs : s < 256) {a b : Int} (ha : 0 ≤ a ∧ a < K 0 0) (hb : 0 ≤ b ∧ b < K 0 0) : ∀ (n best : Nat) (z : Option Value), n ≤ s + 1 → best < 256 → gX (gC nat (d + 3)) nat 174 54 [some (.ref x), some (.int (J a)), some (.int (J b)), some (.int (J s)), some (.int (J best)), some (.int (J ((n : Int) + -1))), z] [] [] (putM w x M) = some (some (.int (J (rct K s a.toNat b.toNat n best))), (putM w x M)) := by
  obtain ⟨k0, k1, k2, k3, k4, kg, kd, kr⟩ := id hK
  obtain ⟨f0, f1, f2, f3, f4, fr, fg, fd⟩ := id hL
  intro n
  induction n with
  | zero =>
    intro best z hn hbst
    rw [rct, show ((0 : Nat) : Int) + -1 = -1 from rfl, e174_54]
    simp (disch := first | omega | exact Nat.le_of_ble_eq_true rfl) only [e174_0, e174_1, e174_2, e174_5, e174_8, e174_9, e174_10, e174_13, e174_16, e174_17, e174_18, e174_21, e174_22, e174_23, e174_24, e174_25, e174_28, e174_31, e174_32, e174_33, e174_34, e174_35, e174_38, e174_39, e174_42, e174_45, e174_47, e174_48, e174_49, e174_51, e174_52, e174_56, e174_59, e174_61, e174_62, e174_63, e174_64, e174_65, e174_68, e174_70, e174_73, e174_75, e174_78, e174_81, e174_82, e174_85, e174_86, e174_88, e174_90, e174_93, e174_94, e174_95, e174_96, e174_98, e174_99, e174_100, e174_101, e174_104, e174_105, e174_108, e174_111, e174_113, e174_116, e174_118, e174_120, e174_123, e174_126, e174_128, J_add, J_sub, J_mul, J_neg, J_lt, J_le, J_eq, gArr_J, gAst_J, gSiz_J, gFld_o, gUpd_o0, gUpd_o1, gUpd_o2, gUpd_o3, gUpd_o4, gUpd_o5, gUpd_o6, gUpd_o7, gUpd_o8, gUpd_o9, gUpd_o10, gUpd_o11, gUpd_o12, gUpd_o13, gUpd_o14, gUpd_o15, gUpd_o16, gUpd_o17, gUpd_o18, gIsO_o, Option.bind_some, List.getElem?_cons_zero, List.getElem?_cons_succ, List.length_cons, List.length_nil, List.set_cons_zero, List.set_cons_succ, gCat_nil, gCat_int, gCat_ref, if_pos, if_neg, Option.toList_some, Option.toList_none, List.cons_append, List.nil_append, B_nar, J1_nar, J0_nar, if_true, if_false, rd_wr_same, rd_wr_ne, true_and, and_true, B_0, B_1, not_true_eq_false, not_false_eq_true, rdM0, rdM1, rdM2, rdM3, rdM4, rdM5, rdM6, rdM7, rdM8, rdM9, rdM10, rdM11, rdM12, rset_at, rset_ne, rset_rset, w0M, wZ1, wZ2, wZ3, wZ4, wZ5, wZ6, wZ7, wZ8, wZ9, wZ10, wZ11, wZ12, f7_0, f7_1, f7_2, f7_3, f7_4, f7_5, f7_6]
  | succ n ih =>
    intro best z hn hbst
    have en1 : ((n + 1 : Nat) : Int) + -1 = (n : Int) := by omega
    have e1 := J_andn n s
    have e2 := J_andn s n
    have l1 := andn_le n s
    have l2 := andn_le s n
    have e3 : (J ((andn n s : Nat) : Int) = J 0) = (andn n s = 0) := by
      rw [show J 0 = J ((0 : Nat) : Int) from rfl, J_eqN (by omega) (by decide)]
    have c1 := s124 (nat := nat) (d := d + 2) (w := (putM w x M)) (s := n) (by omega)
    have c2 := s124 (nat := nat) (d := d + 2) (w := (putM w x M)) (s := best) hbst
    have p1 : pop n ≤ 8 := popN_le n 8
    have p2 : pop best ≤ 8 := popN_le best 8
    have c3 := s154 (nat := nat) (d := d) (w := w) hx hL hK (s := andn s n) (by omega) ha
    have c4 := s123 (nat := nat) (d := d + 2) (w := (putM w x M)) (s := rch K (andn s n) a.toNat) (g := b) (by have := rch_lt hK (s := andn s n) (a := a.toNat) (by omega); omega) (by omega)
    have this := fun best z hb => ih best z (by omega) hb
    rw [en1, rct, e174_54]
    by_cases q1 : andn n s = 0
    · by_cases q2 : pop n ≤ pop best
      · have q2' : popN n 8 ≤ popN best 8 := q2
        by_cases q3 : (rch K (andn s n) a.toNat).testBit b.toNat = true
        · rw [if_neg (fun z => z.2 q3)]
          rw [B_pos q3] at c4
          have this := this best (some (.int (J 1))) hbst
          simp (disch := first | omega | exact Nat.le_of_ble_eq_true rfl) only [e174_0, e174_1, e174_2, e174_5, e174_8, e174_9, e174_10, e174_13, e174_16, e174_17, e174_18, e174_21, e174_22, e174_23, e174_24, e174_25, e174_28, e174_31, e174_32, e174_33, e174_34, e174_35, e174_38, e174_39, e174_42, e174_45, e174_47, e174_48, e174_49, e174_51, e174_52, e174_56, e174_59, e174_61, e174_62, e174_63, e174_64, e174_65, e174_68, e174_70, e174_73, e174_75, e174_78, e174_81, e174_82, e174_85, e174_86, e174_88, e174_90, e174_93, e174_94, e174_95, e174_96, e174_98, e174_99, e174_100, e174_101, e174_104, e174_105, e174_108, e174_111, e174_113, e174_116, e174_118, e174_120, e174_123, e174_126, e174_128, J_add, J_sub, J_mul, J_neg, J_lt, J_le, J_eq, gArr_J, gAst_J, gSiz_J, gFld_o, gUpd_o0, gUpd_o1, gUpd_o2, gUpd_o3, gUpd_o4, gUpd_o5, gUpd_o6, gUpd_o7, gUpd_o8, gUpd_o9, gUpd_o10, gUpd_o11, gUpd_o12, gUpd_o13, gUpd_o14, gUpd_o15, gUpd_o16, gUpd_o17, gUpd_o18, gIsO_o, Option.bind_some, List.getElem?_cons_zero, List.getElem?_cons_succ, List.length_cons, List.length_nil, List.set_cons_zero, List.set_cons_succ, gCat_nil, gCat_int, gCat_ref, if_pos, if_neg, Option.toList_some, Option.toList_none, List.cons_append, List.nil_append, B_nar, J1_nar, J0_nar, if_true, if_false, rd_wr_same, rd_wr_ne, true_and, and_true, B_0, B_1, not_true_eq_false, not_false_eq_true, rdM0, rdM1, rdM2, rdM3, rdM4, rdM5, rdM6, rdM7, rdM8, rdM9, rdM10, rdM11, rdM12, rset_at, rset_ne, rset_rset, w0M, wZ1, wZ2, wZ3, wZ4, wZ5, wZ6, wZ7, wZ8, wZ9, wZ10, wZ11, wZ12, f7_0, f7_1, f7_2, f7_3, f7_4, f7_5, f7_6, e1, e2, e3, q1, c1, c2, c3, c4, this]
        · rw [if_pos ⟨⟨q1, q2⟩, q3⟩]
          rw [B_neg q3] at c4
          have this := this n (some (.int (J 1))) (by omega)
          simp (disch := first | omega | exact Nat.le_of_ble_eq_true rfl) only [e174_0, e174_1, e174_2, e174_5, e174_8, e174_9, e174_10, e174_13, e174_16, e174_17, e174_18, e174_21, e174_22, e174_23, e174_24, e174_25, e174_28, e174_31, e174_32, e174_33, e174_34, e174_35, e174_38, e174_39, e174_42, e174_45, e174_47, e174_48, e174_49, e174_51, e174_52, e174_56, e174_59, e174_61, e174_62, e174_63, e174_64, e174_65, e174_68, e174_70, e174_73, e174_75, e174_78, e174_81, e174_82, e174_85, e174_86, e174_88, e174_90, e174_93, e174_94, e174_95, e174_96, e174_98, e174_99, e174_100, e174_101, e174_104, e174_105, e174_108, e174_111, e174_113, e174_116, e174_118, e174_120, e174_123, e174_126, e174_128, J_add, J_sub, J_mul, J_neg, J_lt, J_le, J_eq, gArr_J, gAst_J, gSiz_J, gFld_o, gUpd_o0, gUpd_o1, gUpd_o2, gUpd_o3, gUpd_o4, gUpd_o5, gUpd_o6, gUpd_o7, gUpd_o8, gUpd_o9, gUpd_o10, gUpd_o11, gUpd_o12, gUpd_o13, gUpd_o14, gUpd_o15, gUpd_o16, gUpd_o17, gUpd_o18, gIsO_o, Option.bind_some, List.getElem?_cons_zero, List.getElem?_cons_succ, List.length_cons, List.length_nil, List.set_cons_zero, List.set_cons_succ, gCat_nil, gCat_int, gCat_ref, if_pos, if_neg, Option.toList_some, Option.toList_none, List.cons_append, List.nil_append, B_nar, J1_nar, J0_nar, if_true, if_false, rd_wr_same, rd_wr_ne, true_and, and_true, B_0, B_1, not_true_eq_false, not_false_eq_true, rdM0, rdM1, rdM2, rdM3, rdM4, rdM5, rdM6, rdM7, rdM8, rdM9, rdM10, rdM11, rdM12, rset_at, rset_ne, rset_rset, w0M, wZ1, wZ2, wZ3, wZ4, wZ5, wZ6, wZ7, wZ8, wZ9, wZ10, wZ11, wZ12, f7_0, f7_1, f7_2, f7_3, f7_4, f7_5, f7_6, e1, e2, e3, q1, c1, c2, c3, c4, this]
      · rw [if_neg (fun z => q2 z.1.2)]
        have this := this best (some (.int (J 0))) hbst
        simp (disch := first | omega | exact Nat.le_of_ble_eq_true rfl) only [e174_0, e174_1, e174_2, e174_5, e174_8, e174_9, e174_10, e174_13, e174_16, e174_17, e174_18, e174_21, e174_22, e174_23, e174_24, e174_25, e174_28, e174_31, e174_32, e174_33, e174_34, e174_35, e174_38, e174_39, e174_42, e174_45, e174_47, e174_48, e174_49, e174_51, e174_52, e174_56, e174_59, e174_61, e174_62, e174_63, e174_64, e174_65, e174_68, e174_70, e174_73, e174_75, e174_78, e174_81, e174_82, e174_85, e174_86, e174_88, e174_90, e174_93, e174_94, e174_95, e174_96, e174_98, e174_99, e174_100, e174_101, e174_104, e174_105, e174_108, e174_111, e174_113, e174_116, e174_118, e174_120, e174_123, e174_126, e174_128, J_add, J_sub, J_mul, J_neg, J_lt, J_le, J_eq, gArr_J, gAst_J, gSiz_J, gFld_o, gUpd_o0, gUpd_o1, gUpd_o2, gUpd_o3, gUpd_o4, gUpd_o5, gUpd_o6, gUpd_o7, gUpd_o8, gUpd_o9, gUpd_o10, gUpd_o11, gUpd_o12, gUpd_o13, gUpd_o14, gUpd_o15, gUpd_o16, gUpd_o17, gUpd_o18, gIsO_o, Option.bind_some, List.getElem?_cons_zero, List.getElem?_cons_succ, List.length_cons, List.length_nil, List.set_cons_zero, List.set_cons_succ, gCat_nil, gCat_int, gCat_ref, if_pos, if_neg, Option.toList_some, Option.toList_none, List.cons_append, List.nil_append, B_nar, J1_nar, J0_nar, if_true, if_false, rd_wr_same, rd_wr_ne, true_and, and_true, B_0, B_1, not_true_eq_false, not_false_eq_true, rdM0, rdM1, rdM2, rdM3, rdM4, rdM5, rdM6, rdM7, rdM8, rdM9, rdM10, rdM11, rdM12, rset_at, rset_ne, rset_rset, w0M, wZ1, wZ2, wZ3, wZ4, wZ5, wZ6, wZ7, wZ8, wZ9, wZ10, wZ11, wZ12, f7_0, f7_1, f7_2, f7_3, f7_4, f7_5, f7_6, e1, e2, e3, q1, c1, c2, this]
    · rw [if_neg (fun z => q1 z.1.1)]
      have this := this best (some (.int (J 0))) hbst
      simp (disch := first | omega | exact Nat.le_of_ble_eq_true rfl) only [e174_0, e174_1, e174_2, e174_5, e174_8, e174_9, e174_10, e174_13, e174_16, e174_17, e174_18, e174_21, e174_22, e174_23, e174_24, e174_25, e174_28, e174_31, e174_32, e174_33, e174_34, e174_35, e174_38, e174_39, e174_42, e174_45, e174_47, e174_48, e174_49, e174_51, e174_52, e174_56, e174_59, e174_61, e174_62, e174_63, e174_64, e174_65, e174_68, e174_70, e174_73, e174_75, e174_78, e174_81, e174_82, e174_85, e174_86, e174_88, e174_90, e174_93, e174_94, e174_95, e174_96, e174_98, e174_99, e174_100, e174_101, e174_104, e174_105, e174_108, e174_111, e174_113, e174_116, e174_118, e174_120, e174_123, e174_126, e174_128, J_add, J_sub, J_mul, J_neg, J_lt, J_le, J_eq, gArr_J, gAst_J, gSiz_J, gFld_o, gUpd_o0, gUpd_o1, gUpd_o2, gUpd_o3, gUpd_o4, gUpd_o5, gUpd_o6, gUpd_o7, gUpd_o8, gUpd_o9, gUpd_o10, gUpd_o11, gUpd_o12, gUpd_o13, gUpd_o14, gUpd_o15, gUpd_o16, gUpd_o17, gUpd_o18, gIsO_o, Option.bind_some, List.getElem?_cons_zero, List.getElem?_cons_succ, List.length_cons, List.length_nil, List.set_cons_zero, List.set_cons_succ, gCat_nil, gCat_int, gCat_ref, if_pos, if_neg, Option.toList_some, Option.toList_none, List.cons_append, List.nil_append, B_nar, J1_nar, J0_nar, if_true, if_false, rd_wr_same, rd_wr_ne, true_and, and_true, B_0, B_1, not_true_eq_false, not_false_eq_true, rdM0, rdM1, rdM2, rdM3, rdM4, rdM5, rdM6, rdM7, rdM8, rdM9, rdM10, rdM11, rdM12, rset_at, rset_ne, rset_rset, w0M, wZ1, wZ2, wZ3, wZ4, wZ5, wZ6, wZ7, wZ8, wZ9, wZ10, wZ11, wZ12, f7_0, f7_1, f7_2, f7_3, f7_4, f7_5, f7_6, e1, e2, e3, q1, this]


theorem y174 {nat : gNat} {d : Nat} {w : gWd} {x : Nat} {M K : Lay} (hx : x + 12 < gSTR) (hL : mLaw K (M 5)) (hK : vK K) {S : Lay} (hR : mRow K S (M 6)) (hS : vS K S) {a b : Int} (h_a : -2147483648 ≤ a ∧ a < 2147483648) (h_b : -2147483648 ≤ b ∧ b < 2147483648)  : gC nat (d + 4) 174 [.ref x, .int (J a), .int (J b)] (putM w x M) = some (some (.int (J (aCut K S a b))), (putM w x M)) := by
  obtain ⟨k0, k1, k2, k3, k4, kg, kd, kr⟩ := id hK
  obtain ⟨f0, f1, f2, f3, f4, fr, fg, fd⟩ := id hL
  have c1 := s140 (nat := nat) (d := d + 1) (w := w) hx hL hK h_a
  have c2 := s140 (nat := nat) (d := d + 1) (w := w) hx hL hK h_b
  rw [en174]
  unfold aCut
  by_cases q1 : 0 ≤ a ∧ a ≤ K 0 0 - 1
  · rw [B_pos q1] at c1
    by_cases q2 : 0 ≤ b ∧ b ≤ K 0 0 - 1
    · rw [B_pos q2] at c2
      by_cases q3 : a = b
      · rw [if_neg (fun z => z.2.2 q3)]
        simp (disch := first | omega | exact Nat.le_of_ble_eq_true rfl) only [e174_0, e174_1, e174_2, e174_5, e174_8, e174_9, e174_10, e174_13, e174_16, e174_17, e174_18, e174_21, e174_22, e174_23, e174_24, e174_25, e174_28, e174_31, e174_32, e174_33, e174_34, e174_35, e174_38, e174_39, e174_42, e174_45, e174_47, e174_48, e174_49, e174_51, e174_52, e174_56, e174_59, e174_61, e174_62, e174_63, e174_64, e174_65, e174_68, e174_70, e174_73, e174_75, e174_78, e174_81, e174_82, e174_85, e174_86, e174_88, e174_90, e174_93, e174_94, e174_95, e174_96, e174_98, e174_99, e174_100, e174_101, e174_104, e174_105, e174_108, e174_111, e174_113, e174_116, e174_118, e174_120, e174_123, e174_126, e174_128, J_add, J_sub, J_mul, J_neg, J_lt, J_le, J_eq, gArr_J, gAst_J, gSiz_J, gFld_o, gUpd_o0, gUpd_o1, gUpd_o2, gUpd_o3, gUpd_o4, gUpd_o5, gUpd_o6, gUpd_o7, gUpd_o8, gUpd_o9, gUpd_o10, gUpd_o11, gUpd_o12, gUpd_o13, gUpd_o14, gUpd_o15, gUpd_o16, gUpd_o17, gUpd_o18, gIsO_o, Option.bind_some, List.getElem?_cons_zero, List.getElem?_cons_succ, List.length_cons, List.length_nil, List.set_cons_zero, List.set_cons_succ, gCat_nil, gCat_int, gCat_ref, if_pos, if_neg, Option.toList_some, Option.toList_none, List.cons_append, List.nil_append, B_nar, J1_nar, J0_nar, if_true, if_false, rd_wr_same, rd_wr_ne, true_and, and_true, B_0, B_1, not_true_eq_false, not_false_eq_true, rdM0, rdM1, rdM2, rdM3, rdM4, rdM5, rdM6, rdM7, rdM8, rdM9, rdM10, rdM11, rdM12, rset_at, rset_ne, rset_rset, w0M, wZ1, wZ2, wZ3, wZ4, wZ5, wZ6, wZ7, wZ8, wZ9, wZ10, wZ11, wZ12, f7_0, f7_1, f7_2, f7_3, f7_4, f7_5, f7_6, c1, c2]
      · rw [if_pos ⟨q1, q2, q3⟩]
        have hsl := cbs_lt K S (K 0 1).toNat (by omega)
        have c3 := s143 (nat := nat) (d := d) (w := w) hx hL hK (r := 6) (Or.inl rfl) hR hS
        have c4 := s154 (nat := nat) (d := d) (w := w) hx hL hK (s := cb K S) hsl (a := a) (by omega)
        have c5 := s123 (nat := nat) (d := d + 2) (w := (putM w x M)) (s := rch K (cb K S) a.toNat) (g := b) (by have := rch_lt hK (s := cb K S) (a := a.toNat) (by omega); omega) (by omega)
        have hr := rch_lab hK (s := cb K S) (a := a.toNat) (b := b.toNat) (by omega) (by omega)
        rw [show ((a.toNat : Nat) : Int) = a from by omega, show ((b.toNat : Nat) : Int) = b from by omega] at hr
        by_cases q4 : labK K (cb K S) a = labK K (cb K S) b
        · rw [if_pos q4]
          rw [B_pos (hr.mpr q4)] at c5
          have hc := cut_same hK (s := cb K S) (a := a.toNat) (b := b.toNat) (by omega) (by omega) (by omega) (by rw [show ((a.toNat : Nat) : Int) = a from by omega, show ((b.toNat : Nat) : Int) = b from by omega]; exact q4)
          rw [show ((a.toNat : Nat) : Int) = a from by omega, show ((b.toNat : Nat) : Int) = b from by omega] at hc
          have h := l174 (nat := nat) (d := d) (w := w) hx hL hK hsl (a := a) (b := b) (by omega) (by omega) (cb K S + 1) (cb K S) none (Nat.le_refl _) hsl
          rw [show ((cb K S + 1 : Nat) : Int) + -1 = (cb K S : Nat) from by omega] at h
          rw [← hc]
          simp (disch := first | omega | exact Nat.le_of_ble_eq_true rfl) only [e174_0, e174_1, e174_2, e174_5, e174_8, e174_9, e174_10, e174_13, e174_16, e174_17, e174_18, e174_21, e174_22, e174_23, e174_24, e174_25, e174_28, e174_31, e174_32, e174_33, e174_34, e174_35, e174_38, e174_39, e174_42, e174_45, e174_47, e174_48, e174_49, e174_51, e174_52, e174_56, e174_59, e174_61, e174_62, e174_63, e174_64, e174_65, e174_68, e174_70, e174_73, e174_75, e174_78, e174_81, e174_82, e174_85, e174_86, e174_88, e174_90, e174_93, e174_94, e174_95, e174_96, e174_98, e174_99, e174_100, e174_101, e174_104, e174_105, e174_108, e174_111, e174_113, e174_116, e174_118, e174_120, e174_123, e174_126, e174_128, J_add, J_sub, J_mul, J_neg, J_lt, J_le, J_eq, gArr_J, gAst_J, gSiz_J, gFld_o, gUpd_o0, gUpd_o1, gUpd_o2, gUpd_o3, gUpd_o4, gUpd_o5, gUpd_o6, gUpd_o7, gUpd_o8, gUpd_o9, gUpd_o10, gUpd_o11, gUpd_o12, gUpd_o13, gUpd_o14, gUpd_o15, gUpd_o16, gUpd_o17, gUpd_o18, gIsO_o, Option.bind_some, List.getElem?_cons_zero, List.getElem?_cons_succ, List.length_cons, List.length_nil, List.set_cons_zero, List.set_cons_succ, gCat_nil, gCat_int, gCat_ref, if_pos, if_neg, Option.toList_some, Option.toList_none, List.cons_append, List.nil_append, B_nar, J1_nar, J0_nar, if_true, if_false, rd_wr_same, rd_wr_ne, true_and, and_true, B_0, B_1, not_true_eq_false, not_false_eq_true, rdM0, rdM1, rdM2, rdM3, rdM4, rdM5, rdM6, rdM7, rdM8, rdM9, rdM10, rdM11, rdM12, rset_at, rset_ne, rset_rset, w0M, wZ1, wZ2, wZ3, wZ4, wZ5, wZ6, wZ7, wZ8, wZ9, wZ10, wZ11, wZ12, f7_0, f7_1, f7_2, f7_3, f7_4, f7_5, f7_6, c1, c2, c3, c4, c5, h]
        · rw [if_neg q4]
          rw [B_neg (fun z => q4 (hr.mp z))] at c5
          simp (disch := first | omega | exact Nat.le_of_ble_eq_true rfl) only [e174_0, e174_1, e174_2, e174_5, e174_8, e174_9, e174_10, e174_13, e174_16, e174_17, e174_18, e174_21, e174_22, e174_23, e174_24, e174_25, e174_28, e174_31, e174_32, e174_33, e174_34, e174_35, e174_38, e174_39, e174_42, e174_45, e174_47, e174_48, e174_49, e174_51, e174_52, e174_56, e174_59, e174_61, e174_62, e174_63, e174_64, e174_65, e174_68, e174_70, e174_73, e174_75, e174_78, e174_81, e174_82, e174_85, e174_86, e174_88, e174_90, e174_93, e174_94, e174_95, e174_96, e174_98, e174_99, e174_100, e174_101, e174_104, e174_105, e174_108, e174_111, e174_113, e174_116, e174_118, e174_120, e174_123, e174_126, e174_128, J_add, J_sub, J_mul, J_neg, J_lt, J_le, J_eq, gArr_J, gAst_J, gSiz_J, gFld_o, gUpd_o0, gUpd_o1, gUpd_o2, gUpd_o3, gUpd_o4, gUpd_o5, gUpd_o6, gUpd_o7, gUpd_o8, gUpd_o9, gUpd_o10, gUpd_o11, gUpd_o12, gUpd_o13, gUpd_o14, gUpd_o15, gUpd_o16, gUpd_o17, gUpd_o18, gIsO_o, Option.bind_some, List.getElem?_cons_zero, List.getElem?_cons_succ, List.length_cons, List.length_nil, List.set_cons_zero, List.set_cons_succ, gCat_nil, gCat_int, gCat_ref, if_pos, if_neg, Option.toList_some, Option.toList_none, List.cons_append, List.nil_append, B_nar, J1_nar, J0_nar, if_true, if_false, rd_wr_same, rd_wr_ne, true_and, and_true, B_0, B_1, not_true_eq_false, not_false_eq_true, rdM0, rdM1, rdM2, rdM3, rdM4, rdM5, rdM6, rdM7, rdM8, rdM9, rdM10, rdM11, rdM12, rset_at, rset_ne, rset_rset, w0M, wZ1, wZ2, wZ3, wZ4, wZ5, wZ6, wZ7, wZ8, wZ9, wZ10, wZ11, wZ12, f7_0, f7_1, f7_2, f7_3, f7_4, f7_5, f7_6, c1, c2, c3, c4, c5]
    · rw [B_neg q2] at c2
      rw [if_neg (fun z => q2 z.2.1)]
      simp (disch := first | omega | exact Nat.le_of_ble_eq_true rfl) only [e174_0, e174_1, e174_2, e174_5, e174_8, e174_9, e174_10, e174_13, e174_16, e174_17, e174_18, e174_21, e174_22, e174_23, e174_24, e174_25, e174_28, e174_31, e174_32, e174_33, e174_34, e174_35, e174_38, e174_39, e174_42, e174_45, e174_47, e174_48, e174_49, e174_51, e174_52, e174_56, e174_59, e174_61, e174_62, e174_63, e174_64, e174_65, e174_68, e174_70, e174_73, e174_75, e174_78, e174_81, e174_82, e174_85, e174_86, e174_88, e174_90, e174_93, e174_94, e174_95, e174_96, e174_98, e174_99, e174_100, e174_101, e174_104, e174_105, e174_108, e174_111, e174_113, e174_116, e174_118, e174_120, e174_123, e174_126, e174_128, J_add, J_sub, J_mul, J_neg, J_lt, J_le, J_eq, gArr_J, gAst_J, gSiz_J, gFld_o, gUpd_o0, gUpd_o1, gUpd_o2, gUpd_o3, gUpd_o4, gUpd_o5, gUpd_o6, gUpd_o7, gUpd_o8, gUpd_o9, gUpd_o10, gUpd_o11, gUpd_o12, gUpd_o13, gUpd_o14, gUpd_o15, gUpd_o16, gUpd_o17, gUpd_o18, gIsO_o, Option.bind_some, List.getElem?_cons_zero, List.getElem?_cons_succ, List.length_cons, List.length_nil, List.set_cons_zero, List.set_cons_succ, gCat_nil, gCat_int, gCat_ref, if_pos, if_neg, Option.toList_some, Option.toList_none, List.cons_append, List.nil_append, B_nar, J1_nar, J0_nar, if_true, if_false, rd_wr_same, rd_wr_ne, true_and, and_true, B_0, B_1, not_true_eq_false, not_false_eq_true, rdM0, rdM1, rdM2, rdM3, rdM4, rdM5, rdM6, rdM7, rdM8, rdM9, rdM10, rdM11, rdM12, rset_at, rset_ne, rset_rset, w0M, wZ1, wZ2, wZ3, wZ4, wZ5, wZ6, wZ7, wZ8, wZ9, wZ10, wZ11, wZ12, f7_0, f7_1, f7_2, f7_3, f7_4, f7_5, f7_6, c1, c2]
  · rw [B_neg q1] at c1
    rw [if_neg (fun z => q1 z.1)]
    simp (disch := first | omega | exact Nat.le_of_ble_eq_true rfl) only [e174_0, e174_1, e174_2, e174_5, e174_8, e174_9, e174_10, e174_13, e174_16, e174_17, e174_18, e174_21, e174_22, e174_23, e174_24, e174_25, e174_28, e174_31, e174_32, e174_33, e174_34, e174_35, e174_38, e174_39, e174_42, e174_45, e174_47, e174_48, e174_49, e174_51, e174_52, e174_56, e174_59, e174_61, e174_62, e174_63, e174_64, e174_65, e174_68, e174_70, e174_73, e174_75, e174_78, e174_81, e174_82, e174_85, e174_86, e174_88, e174_90, e174_93, e174_94, e174_95, e174_96, e174_98, e174_99, e174_100, e174_101, e174_104, e174_105, e174_108, e174_111, e174_113, e174_116, e174_118, e174_120, e174_123, e174_126, e174_128, J_add, J_sub, J_mul, J_neg, J_lt, J_le, J_eq, gArr_J, gAst_J, gSiz_J, gFld_o, gUpd_o0, gUpd_o1, gUpd_o2, gUpd_o3, gUpd_o4, gUpd_o5, gUpd_o6, gUpd_o7, gUpd_o8, gUpd_o9, gUpd_o10, gUpd_o11, gUpd_o12, gUpd_o13, gUpd_o14, gUpd_o15, gUpd_o16, gUpd_o17, gUpd_o18, gIsO_o, Option.bind_some, List.getElem?_cons_zero, List.getElem?_cons_succ, List.length_cons, List.length_nil, List.set_cons_zero, List.set_cons_succ, gCat_nil, gCat_int, gCat_ref, if_pos, if_neg, Option.toList_some, Option.toList_none, List.cons_append, List.nil_append, B_nar, J1_nar, J0_nar, if_true, if_false, rd_wr_same, rd_wr_ne, true_and, and_true, B_0, B_1, not_true_eq_false, not_false_eq_true, rdM0, rdM1, rdM2, rdM3, rdM4, rdM5, rdM6, rdM7, rdM8, rdM9, rdM10, rdM11, rdM12, rset_at, rset_ne, rset_rset, w0M, wZ1, wZ2, wZ3, wZ4, wZ5, wZ6, wZ7, wZ8, wZ9, wZ10, wZ11, wZ12, f7_0, f7_1, f7_2, f7_3, f7_4, f7_5, f7_6, c1]
