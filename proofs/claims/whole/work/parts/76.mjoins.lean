theorem tog_same {K S : Lay} (hK : vK K) {a b : Int} : (if okP K a ∧ okP K b then (if (rch K (cb K S) a.toNat).testBit b.toNat = true then 1 else 0) else -1) = aTog K S a b := by
  unfold aTog
  by_cases q : okP K a ∧ okP K b
  · rw [if_pos q, if_pos q]
    have hr := rch_lab hK (s := cb K S) (a := a.toNat) (b := b.toNat) (by omega) (by omega)
    rw [show ((a.toNat : Nat) : Int) = a from by omega, show ((b.toNat : Nat) : Int) = b from by omega] at hr
    by_cases h : labK K (cb K S) a = labK K (cb K S) b
    · rw [if_pos h, if_pos (hr.mpr h)]
    · rw [if_neg h, if_neg (fun z => h (hr.mp z))]
  · rw [if_neg q, if_neg q]

theorem y157 {nat : gNat} {d : Nat} {w : gWd} {x : Nat} {M K : Lay} (hx : x + 12 < gSTR) (hL : mLaw K (M 5)) (hK : vK K) {S : Lay} (hR : mRow K S (M 6)) (hS : vS K S) {a b : Int} (h_a : -2147483648 ≤ a ∧ a < 2147483648) (h_b : -2147483648 ≤ b ∧ b < 2147483648)  : gC nat (d + 4) 157 [.ref x, .int (J a), .int (J b)] (putM w x M) = some (some (.int (J (aTog K S a b))), (putM w x M)) := by
  rw [← tog_same hK]
  exact s157 hx hL hK hR hS h_a h_b

theorem l175 {nat : gNat} {d : Nat} {w : gWd} {x : Nat} {M K : Lay} (hx : x + 12 < gSTR) (hL : mLaw K (M 5)) (hK : vK K) {S : Lay} (hR : mRow K S (M 6)) (hS : vS K S) {a b : Int} (hb : 0 ≤ b ∧ b < K 0 0) {N : Nat} (hN : (N : Int) = K 0 0) : ∀ (k n P : Nat), n + k = N → P < 256 → gX (gC nat (d + 3)) nat 175 25 [some (.ref x), some (.int (J a)), some (.int (J b)), some (.int (J P)), some (.int (J n))] [] [] (putM w x M) = some (some (.int (J (btw K (cb K S) b.toNat k n P))), (putM w x M)) := by
  obtain ⟨k0, k1, k2, k3, k4, kg, kd, kr⟩ := id hK
  obtain ⟨f0, f1, f2, f3, f4, fr, fg, fd⟩ := id hL
  have hsl := cbs_lt K S (K 0 1).toNat (by omega)
  have c3 := s143 (nat := nat) (d := d) (w := w) hx hL hK (r := 6) (Or.inl rfl) hR hS
  intro k
  induction k with
  | zero =>
    intro n P hn hP
    rw [btw, e175_25]
    simp (disch := first | omega | exact Nat.le_of_ble_eq_true rfl) only [e175_0, e175_1, e175_2, e175_5, e175_8, e175_9, e175_10, e175_13, e175_16, e175_17, e175_18, e175_19, e175_20, e175_21, e175_22, e175_23, e175_27, e175_28, e175_31, e175_32, e175_33, e175_36, e175_37, e175_38, e175_41, e175_44, e175_46, e175_47, e175_48, e175_49, e175_50, e175_51, e175_54, e175_57, e175_60, e175_61, e175_64, e175_67, e175_69, J_add, J_sub, J_mul, J_neg, J_lt, J_le, J_eq, gArr_J, gAst_J, gSiz_J, gFld_o, gUpd_o0, gUpd_o1, gUpd_o2, gUpd_o3, gUpd_o4, gUpd_o5, gUpd_o6, gUpd_o7, gUpd_o8, gUpd_o9, gUpd_o10, gUpd_o11, gUpd_o12, gUpd_o13, gUpd_o14, gUpd_o15, gUpd_o16, gUpd_o17, gUpd_o18, gIsO_o, Option.bind_some, List.getElem?_cons_zero, List.getElem?_cons_succ, List.length_cons, List.length_nil, List.set_cons_zero, List.set_cons_succ, gCat_nil, gCat_int, gCat_ref, if_pos, if_neg, Option.toList_some, Option.toList_none, List.cons_append, List.nil_append, B_nar, J1_nar, J0_nar, if_true, if_false, rd_wr_same, rd_wr_ne, true_and, and_true, B_0, B_1, not_true_eq_false, not_false_eq_true, rdM0, rdM1, rdM2, rdM3, rdM4, rdM5, rdM6, rdM7, rdM8, rdM9, rdM10, rdM11, rdM12, rset_at, rset_ne, rset_rset, w0M, wZ1, wZ2, wZ3, wZ4, wZ5, wZ6, wZ7, wZ8, wZ9, wZ10, wZ11, wZ12, f7_0, f7_1, f7_2, f7_3, f7_4, f7_5, f7_6, f0]
  | succ k ih =>
    intro n P hn hP
    have c1 := s123 (nat := nat) (d := d + 2) (w := (putM w x M)) (s := P) (g := b) (by omega) (by omega)
    have c2 := s153 (nat := nat) (d := d + 1) (w := w) hx hL hK (s := cb K S) hsl hP
    have this := ih (n + 1) (onw K (cb K S) P (K 0 1).toNat) (by omega) (onw_lt hK hP _ (by omega))
    rw [show ((n + 1 : Nat) : Int) = (n : Int) + 1 from rfl] at this
    rw [btw, e175_25]
    by_cases q : P.testBit b.toNat = true
    · rw [if_pos q]
      rw [B_pos q] at c1
      simp (disch := first | omega | exact Nat.le_of_ble_eq_true rfl) only [e175_0, e175_1, e175_2, e175_5, e175_8, e175_9, e175_10, e175_13, e175_16, e175_17, e175_18, e175_19, e175_20, e175_21, e175_22, e175_23, e175_27, e175_28, e175_31, e175_32, e175_33, e175_36, e175_37, e175_38, e175_41, e175_44, e175_46, e175_47, e175_48, e175_49, e175_50, e175_51, e175_54, e175_57, e175_60, e175_61, e175_64, e175_67, e175_69, J_add, J_sub, J_mul, J_neg, J_lt, J_le, J_eq, gArr_J, gAst_J, gSiz_J, gFld_o, gUpd_o0, gUpd_o1, gUpd_o2, gUpd_o3, gUpd_o4, gUpd_o5, gUpd_o6, gUpd_o7, gUpd_o8, gUpd_o9, gUpd_o10, gUpd_o11, gUpd_o12, gUpd_o13, gUpd_o14, gUpd_o15, gUpd_o16, gUpd_o17, gUpd_o18, gIsO_o, Option.bind_some, List.getElem?_cons_zero, List.getElem?_cons_succ, List.length_cons, List.length_nil, List.set_cons_zero, List.set_cons_succ, gCat_nil, gCat_int, gCat_ref, if_pos, if_neg, Option.toList_some, Option.toList_none, List.cons_append, List.nil_append, B_nar, J1_nar, J0_nar, if_true, if_false, rd_wr_same, rd_wr_ne, true_and, and_true, B_0, B_1, not_true_eq_false, not_false_eq_true, rdM0, rdM1, rdM2, rdM3, rdM4, rdM5, rdM6, rdM7, rdM8, rdM9, rdM10, rdM11, rdM12, rset_at, rset_ne, rset_rset, w0M, wZ1, wZ2, wZ3, wZ4, wZ5, wZ6, wZ7, wZ8, wZ9, wZ10, wZ11, wZ12, f7_0, f7_1, f7_2, f7_3, f7_4, f7_5, f7_6, f0, c1]
    · rw [if_neg q]
      rw [B_neg q] at c1
      simp (disch := first | omega | exact Nat.le_of_ble_eq_true rfl) only [e175_0, e175_1, e175_2, e175_5, e175_8, e175_9, e175_10, e175_13, e175_16, e175_17, e175_18, e175_19, e175_20, e175_21, e175_22, e175_23, e175_27, e175_28, e175_31, e175_32, e175_33, e175_36, e175_37, e175_38, e175_41, e175_44, e175_46, e175_47, e175_48, e175_49, e175_50, e175_51, e175_54, e175_57, e175_60, e175_61, e175_64, e175_67, e175_69, J_add, J_sub, J_mul, J_neg, J_lt, J_le, J_eq, gArr_J, gAst_J, gSiz_J, gFld_o, gUpd_o0, gUpd_o1, gUpd_o2, gUpd_o3, gUpd_o4, gUpd_o5, gUpd_o6, gUpd_o7, gUpd_o8, gUpd_o9, gUpd_o10, gUpd_o11, gUpd_o12, gUpd_o13, gUpd_o14, gUpd_o15, gUpd_o16, gUpd_o17, gUpd_o18, gIsO_o, Option.bind_some, List.getElem?_cons_zero, List.getElem?_cons_succ, List.length_cons, List.length_nil, List.set_cons_zero, List.set_cons_succ, gCat_nil, gCat_int, gCat_ref, if_pos, if_neg, Option.toList_some, Option.toList_none, List.cons_append, List.nil_append, B_nar, J1_nar, J0_nar, if_true, if_false, rd_wr_same, rd_wr_ne, true_and, and_true, B_0, B_1, not_true_eq_false, not_false_eq_true, rdM0, rdM1, rdM2, rdM3, rdM4, rdM5, rdM6, rdM7, rdM8, rdM9, rdM10, rdM11, rdM12, rset_at, rset_ne, rset_rset, w0M, wZ1, wZ2, wZ3, wZ4, wZ5, wZ6, wZ7, wZ8, wZ9, wZ10, wZ11, wZ12, f7_0, f7_1, f7_2, f7_3, f7_4, f7_5, f7_6, f0, c1, c2, c3, this]


theorem y175 {nat : gNat} {d : Nat} {w : gWd} {x : Nat} {M K : Lay} (hx : x + 12 < gSTR) (hL : mLaw K (M 5)) (hK : vK K) {S : Lay} (hR : mRow K S (M 6)) (hS : vS K S) {a b : Int} (h_a : -2147483648 ≤ a ∧ a < 2147483648) (h_b : -2147483648 ≤ b ∧ b < 2147483648)  : gC nat (d + 4) 175 [.ref x, .int (J a), .int (J b)] (putM w x M) = some (some (.int (J (aBtw K S a b))), (putM w x M)) := by
  obtain ⟨k0, k1, k2, k3, k4, kg, kd, kr⟩ := id hK
  obtain ⟨f0, f1, f2, f3, f4, fr, fg, fd⟩ := id hL
  have c1 := s140 (nat := nat) (d := d + 1) (w := w) hx hL hK h_a
  have c2 := s140 (nat := nat) (d := d + 1) (w := w) hx hL hK h_b
  rw [en175]
  unfold aBtw
  by_cases q1 : 0 ≤ a ∧ a ≤ K 0 0 - 1
  · rw [B_pos q1] at c1
    by_cases q2 : 0 ≤ b ∧ b ≤ K 0 0 - 1
    · rw [B_pos q2] at c2
      rw [if_pos ⟨q1, q2⟩]
      have e1 := J_shl (g := a) (by omega)
      have h := l175 (nat := nat) (d := d) (w := w) hx hL hK hR hS (a := a) (b := b) (by omega) (N := (K 0 0).toNat) (by omega) (K 0 0).toNat 0 (2 ^ a.toNat) (by omega) (pow8 (by omega))
      rw [show ((0 : Nat) : Int) = 0 from rfl, btw_all hK (by omega)] at h
      simp (disch := first | omega | exact Nat.le_of_ble_eq_true rfl) only [e175_0, e175_1, e175_2, e175_5, e175_8, e175_9, e175_10, e175_13, e175_16, e175_17, e175_18, e175_19, e175_20, e175_21, e175_22, e175_23, e175_27, e175_28, e175_31, e175_32, e175_33, e175_36, e175_37, e175_38, e175_41, e175_44, e175_46, e175_47, e175_48, e175_49, e175_50, e175_51, e175_54, e175_57, e175_60, e175_61, e175_64, e175_67, e175_69, J_add, J_sub, J_mul, J_neg, J_lt, J_le, J_eq, gArr_J, gAst_J, gSiz_J, gFld_o, gUpd_o0, gUpd_o1, gUpd_o2, gUpd_o3, gUpd_o4, gUpd_o5, gUpd_o6, gUpd_o7, gUpd_o8, gUpd_o9, gUpd_o10, gUpd_o11, gUpd_o12, gUpd_o13, gUpd_o14, gUpd_o15, gUpd_o16, gUpd_o17, gUpd_o18, gIsO_o, Option.bind_some, List.getElem?_cons_zero, List.getElem?_cons_succ, List.length_cons, List.length_nil, List.set_cons_zero, List.set_cons_succ, gCat_nil, gCat_int, gCat_ref, if_pos, if_neg, Option.toList_some, Option.toList_none, List.cons_append, List.nil_append, B_nar, J1_nar, J0_nar, if_true, if_false, rd_wr_same, rd_wr_ne, true_and, and_true, B_0, B_1, not_true_eq_false, not_false_eq_true, rdM0, rdM1, rdM2, rdM3, rdM4, rdM5, rdM6, rdM7, rdM8, rdM9, rdM10, rdM11, rdM12, rset_at, rset_ne, rset_rset, w0M, wZ1, wZ2, wZ3, wZ4, wZ5, wZ6, wZ7, wZ8, wZ9, wZ10, wZ11, wZ12, f7_0, f7_1, f7_2, f7_3, f7_4, f7_5, f7_6, c1, c2, e1, h]
    · rw [B_neg q2] at c2
      rw [if_neg (fun z => q2 z.2)]
      simp (disch := first | omega | exact Nat.le_of_ble_eq_true rfl) only [e175_0, e175_1, e175_2, e175_5, e175_8, e175_9, e175_10, e175_13, e175_16, e175_17, e175_18, e175_19, e175_20, e175_21, e175_22, e175_23, e175_27, e175_28, e175_31, e175_32, e175_33, e175_36, e175_37, e175_38, e175_41, e175_44, e175_46, e175_47, e175_48, e175_49, e175_50, e175_51, e175_54, e175_57, e175_60, e175_61, e175_64, e175_67, e175_69, J_add, J_sub, J_mul, J_neg, J_lt, J_le, J_eq, gArr_J, gAst_J, gSiz_J, gFld_o, gUpd_o0, gUpd_o1, gUpd_o2, gUpd_o3, gUpd_o4, gUpd_o5, gUpd_o6, gUpd_o7, gUpd_o8, gUpd_o9, gUpd_o10, gUpd_o11, gUpd_o12, gUpd_o13, gUpd_o14, gUpd_o15, gUpd_o16, gUpd_o17, gUpd_o18, gIsO_o, Option.bind_some, List.getElem?_cons_zero, List.getElem?_cons_succ, List.length_cons, List.length_nil, List.set_cons_zero, List.set_cons_succ, gCat_nil, gCat_int, gCat_ref, if_pos, if_neg, Option.toList_some, Option.toList_none, List.cons_append, List.nil_append, B_nar, J1_nar, J0_nar, if_true, if_false, rd_wr_same, rd_wr_ne, true_and, and_true, B_0, B_1, not_true_eq_false, not_false_eq_true, rdM0, rdM1, rdM2, rdM3, rdM4, rdM5, rdM6, rdM7, rdM8, rdM9, rdM10, rdM11, rdM12, rset_at, rset_ne, rset_rset, w0M, wZ1, wZ2, wZ3, wZ4, wZ5, wZ6, wZ7, wZ8, wZ9, wZ10, wZ11, wZ12, f7_0, f7_1, f7_2, f7_3, f7_4, f7_5, f7_6, c1, c2]
  · rw [B_neg q1] at c1
    rw [if_neg (fun z => q1 z.1)]
    simp (disch := first | omega | exact Nat.le_of_ble_eq_true rfl) only [e175_0, e175_1, e175_2, e175_5, e175_8, e175_9, e175_10, e175_13, e175_16, e175_17, e175_18, e175_19, e175_20, e175_21, e175_22, e175_23, e175_27, e175_28, e175_31, e175_32, e175_33, e175_36, e175_37, e175_38, e175_41, e175_44, e175_46, e175_47, e175_48, e175_49, e175_50, e175_51, e175_54, e175_57, e175_60, e175_61, e175_64, e175_67, e175_69, J_add, J_sub, J_mul, J_neg, J_lt, J_le, J_eq, gArr_J, gAst_J, gSiz_J, gFld_o, gUpd_o0, gUpd_o1, gUpd_o2, gUpd_o3, gUpd_o4, gUpd_o5, gUpd_o6, gUpd_o7, gUpd_o8, gUpd_o9, gUpd_o10, gUpd_o11, gUpd_o12, gUpd_o13, gUpd_o14, gUpd_o15, gUpd_o16, gUpd_o17, gUpd_o18, gIsO_o, Option.bind_some, List.getElem?_cons_zero, List.getElem?_cons_succ, List.length_cons, List.length_nil, List.set_cons_zero, List.set_cons_succ, gCat_nil, gCat_int, gCat_ref, if_pos, if_neg, Option.toList_some, Option.toList_none, List.cons_append, List.nil_append, B_nar, J1_nar, J0_nar, if_true, if_false, rd_wr_same, rd_wr_ne, true_and, and_true, B_0, B_1, not_true_eq_false, not_false_eq_true, rdM0, rdM1, rdM2, rdM3, rdM4, rdM5, rdM6, rdM7, rdM8, rdM9, rdM10, rdM11, rdM12, rset_at, rset_ne, rset_rset, w0M, wZ1, wZ2, wZ3, wZ4, wZ5, wZ6, wZ7, wZ8, wZ9, wZ10, wZ11, wZ12, f7_0, f7_1, f7_2, f7_3, f7_4, f7_5, f7_6, c1]

abbrev mor (K : Lay) (s n : Nat) : Int := if s.testBit n = true then -1 else prI K (s ||| 2 ^ n) (K 0 0).toNat / 2 - prI K s (K 0 0).toNat / 2
theorem mor_in {K : Lay} (hK : vK K) {s n : Nat} (hn : (n : Int) < K 0 1) : -1 ≤ mor K s n ∧ mor K s n ≤ 64 := by
  unfold mor
  split
  · omega
  · rw [prI_add hK hn]
    have := prs_in K s n
    omega
theorem rjn_in {K : Lay} (hK : vK K) {s : Nat} : ∀ n : Nat, (n : Int) ≤ K 0 1 → (-4 ≤ (rjn K s n).1 ∧ (rjn K s n).1 ≤ 8) ∧ (-1 ≤ (rjn K s n).2 ∧ (rjn K s n).2 ≤ 64) := by
  have k1 := hK.2.1
  intro n
  induction n with
  | zero => intro _; exact ⟨⟨Int.le_refl _, by show (-4 : Int) ≤ 8; decide⟩, Int.le_refl _, by show (-1 : Int) ≤ 64; decide⟩
  | succ n ih =>
    intro hn
    have h := ih (by omega)
    have hm := mor_in hK (s := s) (n := n) (by omega)
    rw [show rjn K s (n + 1) = if (rjn K s n).2 < mor K s n then ((n : Int), mor K s n) else rjn K s n from rfl]
    by_cases q : (rjn K s n).2 < mor K s n
    · rw [if_pos q]
      exact ⟨⟨by show (-4 : Int) ≤ n; omega, by show (n : Int) ≤ 8; omega⟩, hm⟩
    · rw [if_neg q]
      exact h
theorem l176 {nat : gNat} {d : Nat} {w : gWd} {x : Nat} {M K : Lay} (hx : x + 12 < gSTR) (hL : mLaw K (M 5)) (hK : vK K) {s : Nat} (hs : s < 256) {u : Int} (hu : 0 ≤ u ∧ u ≤ 1) {N : Nat} (hN : (N : Int) = K 0 1) : ∀ (k n : Nat) (z : Option Value), n + k = N → gX (gC nat (d + 4)) nat 176 29 [some (.ref x), some (.int (J u)), some (.int (J s)), some (.int (J (rjn K s n).1)), some (.int (J (rjn K s n).2)), some (.int (J n)), z] [] [] (putM w x M) = some (some (.int (J (if (rjn K s N).1 = -4 then -4 else if u = 0 then (rjn K s N).1 else (rjn K s N).2))), (putM w x M)) := by
  obtain ⟨k0, k1, k2, k3, k4, kg, kd, kr⟩ := id hK
  obtain ⟨f0, f1, f2, f3, f4, fr, fg, fd⟩ := id hL
  intro k
  induction k with
  | zero =>
    intro n z hn
    rw [Nat.add_zero] at hn
    subst hn
    have hb := rjn_in hK (s := s) n (by omega)
    rw [e176_29]
    by_cases q1 : (rjn K s n).1 = -4
    · rw [if_pos q1]
      simp (disch := first | omega | exact Nat.le_of_ble_eq_true rfl) only [e176_0, e176_1, e176_2, e176_3, e176_6, e176_9, e176_10, e176_11, e176_12, e176_13, e176_16, e176_19, e176_20, e176_22, e176_23, e176_24, e176_26, e176_27, e176_31, e176_32, e176_35, e176_36, e176_37, e176_40, e176_41, e176_43, e176_46, e176_49, e176_50, e176_53, e176_54, e176_55, e176_56, e176_58, e176_59, e176_60, e176_63, e176_64, e176_65, e176_68, e176_69, e176_71, e176_73, e176_75, e176_78, e176_80, e176_83, e176_84, e176_85, e176_87, e176_89, e176_92, e176_94, e176_97, e176_99, e176_101, e176_104, e176_107, e176_108, e176_110, e176_113, e176_115, e176_118, e176_119, e176_122, e176_123, e176_126, e176_128, J_add, J_sub, J_mul, J_neg, J_lt, J_le, J_eq, gArr_J, gAst_J, gSiz_J, gFld_o, gUpd_o0, gUpd_o1, gUpd_o2, gUpd_o3, gUpd_o4, gUpd_o5, gUpd_o6, gUpd_o7, gUpd_o8, gUpd_o9, gUpd_o10, gUpd_o11, gUpd_o12, gUpd_o13, gUpd_o14, gUpd_o15, gUpd_o16, gUpd_o17, gUpd_o18, gIsO_o, Option.bind_some, List.getElem?_cons_zero, List.getElem?_cons_succ, List.length_cons, List.length_nil, List.set_cons_zero, List.set_cons_succ, gCat_nil, gCat_int, gCat_ref, if_pos, if_neg, Option.toList_some, Option.toList_none, List.cons_append, List.nil_append, B_nar, J1_nar, J0_nar, if_true, if_false, rd_wr_same, rd_wr_ne, true_and, and_true, B_0, B_1, not_true_eq_false, not_false_eq_true, rdM0, rdM1, rdM2, rdM3, rdM4, rdM5, rdM6, rdM7, rdM8, rdM9, rdM10, rdM11, rdM12, rset_at, rset_ne, rset_rset, w0M, wZ1, wZ2, wZ3, wZ4, wZ5, wZ6, wZ7, wZ8, wZ9, wZ10, wZ11, wZ12, f7_0, f7_1, f7_2, f7_3, f7_4, f7_5, f7_6, f1]
    · rw [if_neg q1]
      by_cases q2 : u = 0
      · rw [if_pos q2]
        simp (disch := first | omega | exact Nat.le_of_ble_eq_true rfl) only [e176_0, e176_1, e176_2, e176_3, e176_6, e176_9, e176_10, e176_11, e176_12, e176_13, e176_16, e176_19, e176_20, e176_22, e176_23, e176_24, e176_26, e176_27, e176_31, e176_32, e176_35, e176_36, e176_37, e176_40, e176_41, e176_43, e176_46, e176_49, e176_50, e176_53, e176_54, e176_55, e176_56, e176_58, e176_59, e176_60, e176_63, e176_64, e176_65, e176_68, e176_69, e176_71, e176_73, e176_75, e176_78, e176_80, e176_83, e176_84, e176_85, e176_87, e176_89, e176_92, e176_94, e176_97, e176_99, e176_101, e176_104, e176_107, e176_108, e176_110, e176_113, e176_115, e176_118, e176_119, e176_122, e176_123, e176_126, e176_128, J_add, J_sub, J_mul, J_neg, J_lt, J_le, J_eq, gArr_J, gAst_J, gSiz_J, gFld_o, gUpd_o0, gUpd_o1, gUpd_o2, gUpd_o3, gUpd_o4, gUpd_o5, gUpd_o6, gUpd_o7, gUpd_o8, gUpd_o9, gUpd_o10, gUpd_o11, gUpd_o12, gUpd_o13, gUpd_o14, gUpd_o15, gUpd_o16, gUpd_o17, gUpd_o18, gIsO_o, Option.bind_some, List.getElem?_cons_zero, List.getElem?_cons_succ, List.length_cons, List.length_nil, List.set_cons_zero, List.set_cons_succ, gCat_nil, gCat_int, gCat_ref, if_pos, if_neg, Option.toList_some, Option.toList_none, List.cons_append, List.nil_append, B_nar, J1_nar, J0_nar, if_true, if_false, rd_wr_same, rd_wr_ne, true_and, and_true, B_0, B_1, not_true_eq_false, not_false_eq_true, rdM0, rdM1, rdM2, rdM3, rdM4, rdM5, rdM6, rdM7, rdM8, rdM9, rdM10, rdM11, rdM12, rset_at, rset_ne, rset_rset, w0M, wZ1, wZ2, wZ3, wZ4, wZ5, wZ6, wZ7, wZ8, wZ9, wZ10, wZ11, wZ12, f7_0, f7_1, f7_2, f7_3, f7_4, f7_5, f7_6, f1]
      · rw [if_neg q2]
        simp (disch := first | omega | exact Nat.le_of_ble_eq_true rfl) only [e176_0, e176_1, e176_2, e176_3, e176_6, e176_9, e176_10, e176_11, e176_12, e176_13, e176_16, e176_19, e176_20, e176_22, e176_23, e176_24, e176_26, e176_27, e176_31, e176_32, e176_35, e176_36, e176_37, e176_40, e176_41, e176_43, e176_46, e176_49, e176_50, e176_53, e176_54, e176_55, e176_56, e176_58, e176_59, e176_60, e176_63, e176_64, e176_65, e176_68, e176_69, e176_71, e176_73, e176_75, e176_78, e176_80, e176_83, e176_84, e176_85, e176_87, e176_89, e176_92, e176_94, e176_97, e176_99, e176_101, e176_104, e176_107, e176_108, e176_110, e176_113, e176_115, e176_118, e176_119, e176_122, e176_123, e176_126, e176_128, J_add, J_sub, J_mul, J_neg, J_lt, J_le, J_eq, gArr_J, gAst_J, gSiz_J, gFld_o, gUpd_o0, gUpd_o1, gUpd_o2, gUpd_o3, gUpd_o4, gUpd_o5, gUpd_o6, gUpd_o7, gUpd_o8, gUpd_o9, gUpd_o10, gUpd_o11, gUpd_o12, gUpd_o13, gUpd_o14, gUpd_o15, gUpd_o16, gUpd_o17, gUpd_o18, gIsO_o, Option.bind_some, List.getElem?_cons_zero, List.getElem?_cons_succ, List.length_cons, List.length_nil, List.set_cons_zero, List.set_cons_succ, gCat_nil, gCat_int, gCat_ref, if_pos, if_neg, Option.toList_some, Option.toList_none, List.cons_append, List.nil_append, B_nar, J1_nar, J0_nar, if_true, if_false, rd_wr_same, rd_wr_ne, true_and, and_true, B_0, B_1, not_true_eq_false, not_false_eq_true, rdM0, rdM1, rdM2, rdM3, rdM4, rdM5, rdM6, rdM7, rdM8, rdM9, rdM10, rdM11, rdM12, rset_at, rset_ne, rset_rset, w0M, wZ1, wZ2, wZ3, wZ4, wZ5, wZ6, wZ7, wZ8, wZ9, wZ10, wZ11, wZ12, f7_0, f7_1, f7_2, f7_3, f7_4, f7_5, f7_6, f1]
  | succ k ih =>
    intro n z hn
    have hb := rjn_in hK (s := s) n (by omega)
    have hm := mor_in hK (s := s) (n := n) (by omega)
    have e1 : J 1 <<< (J (n : Int) &&& 31) = J ((2 ^ n : Nat) : Int) := by rw [J_shl (by omega), Int.toNat_natCast]
    have e2 := J_or s (2 ^ n)
    have hs2 : s ||| 2 ^ n < 256 := Nat.or_lt_two_pow (n := 8) hs (pow8 (by omega))
    have c1 := s123 (nat := nat) (d := d + 3) (w := (putM w x M)) (s := s) (g := n) (by omega) (by omega)
    rw [Int.toNat_natCast] at c1
    have c2 := s155 (nat := nat) (d := d) (w := w) hx hL hK hs
    have c3 := s155 (nat := nat) (d := d) (w := w) hx hL hK hs2
    have p2 := prI_in (K := K) (s := s) (K 0 0).toNat (by omega)
    have p3 := prI_in (K := K) (s := s ||| 2 ^ n) (K 0 0).toNat (by omega)
    have this := fun z => ih (n + 1) z (by omega)
    rw [show ((n + 1 : Nat) : Int) = (n : Int) + 1 from rfl, rjn] at this
    unfold mor at hm
    rw [e176_29]
    by_cases q1 : s.testBit n = true
    · rw [B_pos q1] at c1
      rw [if_pos q1] at this hm
      rw [if_neg (by omega)] at this
      simp (disch := first | omega | exact Nat.le_of_ble_eq_true rfl) only [e176_0, e176_1, e176_2, e176_3, e176_6, e176_9, e176_10, e176_11, e176_12, e176_13, e176_16, e176_19, e176_20, e176_22, e176_23, e176_24, e176_26, e176_27, e176_31, e176_32, e176_35, e176_36, e176_37, e176_40, e176_41, e176_43, e176_46, e176_49, e176_50, e176_53, e176_54, e176_55, e176_56, e176_58, e176_59, e176_60, e176_63, e176_64, e176_65, e176_68, e176_69, e176_71, e176_73, e176_75, e176_78, e176_80, e176_83, e176_84, e176_85, e176_87, e176_89, e176_92, e176_94, e176_97, e176_99, e176_101, e176_104, e176_107, e176_108, e176_110, e176_113, e176_115, e176_118, e176_119, e176_122, e176_123, e176_126, e176_128, J_add, J_sub, J_mul, J_neg, J_lt, J_le, J_eq, gArr_J, gAst_J, gSiz_J, gFld_o, gUpd_o0, gUpd_o1, gUpd_o2, gUpd_o3, gUpd_o4, gUpd_o5, gUpd_o6, gUpd_o7, gUpd_o8, gUpd_o9, gUpd_o10, gUpd_o11, gUpd_o12, gUpd_o13, gUpd_o14, gUpd_o15, gUpd_o16, gUpd_o17, gUpd_o18, gIsO_o, Option.bind_some, List.getElem?_cons_zero, List.getElem?_cons_succ, List.length_cons, List.length_nil, List.set_cons_zero, List.set_cons_succ, gCat_nil, gCat_int, gCat_ref, if_pos, if_neg, Option.toList_some, Option.toList_none, List.cons_append, List.nil_append, B_nar, J1_nar, J0_nar, if_true, if_false, rd_wr_same, rd_wr_ne, true_and, and_true, B_0, B_1, not_true_eq_false, not_false_eq_true, rdM0, rdM1, rdM2, rdM3, rdM4, rdM5, rdM6, rdM7, rdM8, rdM9, rdM10, rdM11, rdM12, rset_at, rset_ne, rset_rset, w0M, wZ1, wZ2, wZ3, wZ4, wZ5, wZ6, wZ7, wZ8, wZ9, wZ10, wZ11, wZ12, f7_0, f7_1, f7_2, f7_3, f7_4, f7_5, f7_6, f1, c1, this]
    · rw [B_neg q1] at c1
      rw [if_neg q1] at this hm
      by_cases q2 : (rjn K s n).2 < prI K (s ||| 2 ^ n) (K 0 0).toNat / 2 - prI K s (K 0 0).toNat / 2
      · rw [if_pos q2] at this
        dsimp only at this
        simp (disch := first | omega | exact Nat.le_of_ble_eq_true rfl) only [e176_0, e176_1, e176_2, e176_3, e176_6, e176_9, e176_10, e176_11, e176_12, e176_13, e176_16, e176_19, e176_20, e176_22, e176_23, e176_24, e176_26, e176_27, e176_31, e176_32, e176_35, e176_36, e176_37, e176_40, e176_41, e176_43, e176_46, e176_49, e176_50, e176_53, e176_54, e176_55, e176_56, e176_58, e176_59, e176_60, e176_63, e176_64, e176_65, e176_68, e176_69, e176_71, e176_73, e176_75, e176_78, e176_80, e176_83, e176_84, e176_85, e176_87, e176_89, e176_92, e176_94, e176_97, e176_99, e176_101, e176_104, e176_107, e176_108, e176_110, e176_113, e176_115, e176_118, e176_119, e176_122, e176_123, e176_126, e176_128, J_add, J_sub, J_mul, J_neg, J_lt, J_le, J_eq, gArr_J, gAst_J, gSiz_J, gFld_o, gUpd_o0, gUpd_o1, gUpd_o2, gUpd_o3, gUpd_o4, gUpd_o5, gUpd_o6, gUpd_o7, gUpd_o8, gUpd_o9, gUpd_o10, gUpd_o11, gUpd_o12, gUpd_o13, gUpd_o14, gUpd_o15, gUpd_o16, gUpd_o17, gUpd_o18, gIsO_o, Option.bind_some, List.getElem?_cons_zero, List.getElem?_cons_succ, List.length_cons, List.length_nil, List.set_cons_zero, List.set_cons_succ, gCat_nil, gCat_int, gCat_ref, if_pos, if_neg, Option.toList_some, Option.toList_none, List.cons_append, List.nil_append, B_nar, J1_nar, J0_nar, if_true, if_false, rd_wr_same, rd_wr_ne, true_and, and_true, B_0, B_1, not_true_eq_false, not_false_eq_true, rdM0, rdM1, rdM2, rdM3, rdM4, rdM5, rdM6, rdM7, rdM8, rdM9, rdM10, rdM11, rdM12, rset_at, rset_ne, rset_rset, w0M, wZ1, wZ2, wZ3, wZ4, wZ5, wZ6, wZ7, wZ8, wZ9, wZ10, wZ11, wZ12, f7_0, f7_1, f7_2, f7_3, f7_4, f7_5, f7_6, f1, e1, e2, c1, c2, c3, this]
      · rw [if_neg q2] at this
        simp (disch := first | omega | exact Nat.le_of_ble_eq_true rfl) only [e176_0, e176_1, e176_2, e176_3, e176_6, e176_9, e176_10, e176_11, e176_12, e176_13, e176_16, e176_19, e176_20, e176_22, e176_23, e176_24, e176_26, e176_27, e176_31, e176_32, e176_35, e176_36, e176_37, e176_40, e176_41, e176_43, e176_46, e176_49, e176_50, e176_53, e176_54, e176_55, e176_56, e176_58, e176_59, e176_60, e176_63, e176_64, e176_65, e176_68, e176_69, e176_71, e176_73, e176_75, e176_78, e176_80, e176_83, e176_84, e176_85, e176_87, e176_89, e176_92, e176_94, e176_97, e176_99, e176_101, e176_104, e176_107, e176_108, e176_110, e176_113, e176_115, e176_118, e176_119, e176_122, e176_123, e176_126, e176_128, J_add, J_sub, J_mul, J_neg, J_lt, J_le, J_eq, gArr_J, gAst_J, gSiz_J, gFld_o, gUpd_o0, gUpd_o1, gUpd_o2, gUpd_o3, gUpd_o4, gUpd_o5, gUpd_o6, gUpd_o7, gUpd_o8, gUpd_o9, gUpd_o10, gUpd_o11, gUpd_o12, gUpd_o13, gUpd_o14, gUpd_o15, gUpd_o16, gUpd_o17, gUpd_o18, gIsO_o, Option.bind_some, List.getElem?_cons_zero, List.getElem?_cons_succ, List.length_cons, List.length_nil, List.set_cons_zero, List.set_cons_succ, gCat_nil, gCat_int, gCat_ref, if_pos, if_neg, Option.toList_some, Option.toList_none, List.cons_append, List.nil_append, B_nar, J1_nar, J0_nar, if_true, if_false, rd_wr_same, rd_wr_ne, true_and, and_true, B_0, B_1, not_true_eq_false, not_false_eq_true, rdM0, rdM1, rdM2, rdM3, rdM4, rdM5, rdM6, rdM7, rdM8, rdM9, rdM10, rdM11, rdM12, rset_at, rset_ne, rset_rset, w0M, wZ1, wZ2, wZ3, wZ4, wZ5, wZ6, wZ7, wZ8, wZ9, wZ10, wZ11, wZ12, f7_0, f7_1, f7_2, f7_3, f7_4, f7_5, f7_6, f1, e1, e2, c1, c2, c3, this]


theorem y176 {nat : gNat} {d : Nat} {w : gWd} {x : Nat} {M K : Lay} (hx : x + 12 < gSTR) (hL : mLaw K (M 5)) (hK : vK K) {S : Lay} (hR : mRow K S (M 6)) (hS : vS K S) {u : Int} (h_u : -2147483648 ≤ u ∧ u < 2147483648)  : gC nat (d + 5) 176 [.ref x, .int (J u)] (putM w x M) = some (some (.int (J (aJoi K S u))), (putM w x M)) := by
  obtain ⟨k0, k1, k2, k3, k4, kg, kd, kr⟩ := id hK
  obtain ⟨f0, f1, f2, f3, f4, fr, fg, fd⟩ := id hL
  have c1 := s122 (nat := nat) (d := d + 3) (w := (putM w x M)) (v := u) (l := 0) (h := 1) (by omega) (by omega) (by omega)
  rw [en176]
  unfold aJoi
  by_cases q1 : 0 ≤ u ∧ u ≤ 1
  · rw [B_pos q1] at c1
    rw [if_pos q1]
    have c3 := s143 (nat := nat) (d := d + 1) (w := w) hx hL hK (r := 6) (Or.inl rfl) hR hS
    have h := l176 (nat := nat) (d := d) (w := w) hx hL hK (s := cb K S) (cbs_lt _ _ _ (by omega)) q1 (N := (K 0 1).toNat) (by omega) (K 0 1).toNat 0 none (by omega)
    have e : (if (rjn K (cb K S) (K 0 1).toNat).1 = -4 then -4 else if u = 0 then (rjn K (cb K S) (K 0 1).toNat).1 else (rjn K (cb K S) (K 0 1).toNat).2) = (if u = 0 then (jnS K S (K 0 1).toNat).1 else (jnS K S (K 0 1).toNat).2) := by
      rcases rjn_jn (S := S) hK (K 0 1).toNat (by omega) with ⟨h1, h2⟩ | ⟨h1, h2, h3⟩
      · rw [h1, h2, if_pos rfl]
        split <;> rfl
      · rw [if_neg (by omega), h1]
    rw [e, rjn, show ((0 : Nat) : Int) = 0 from rfl] at h
    dsimp only at h
    simp (disch := first | omega | exact Nat.le_of_ble_eq_true rfl) only [e176_0, e176_1, e176_2, e176_3, e176_6, e176_9, e176_10, e176_11, e176_12, e176_13, e176_16, e176_19, e176_20, e176_22, e176_23, e176_24, e176_26, e176_27, e176_31, e176_32, e176_35, e176_36, e176_37, e176_40, e176_41, e176_43, e176_46, e176_49, e176_50, e176_53, e176_54, e176_55, e176_56, e176_58, e176_59, e176_60, e176_63, e176_64, e176_65, e176_68, e176_69, e176_71, e176_73, e176_75, e176_78, e176_80, e176_83, e176_84, e176_85, e176_87, e176_89, e176_92, e176_94, e176_97, e176_99, e176_101, e176_104, e176_107, e176_108, e176_110, e176_113, e176_115, e176_118, e176_119, e176_122, e176_123, e176_126, e176_128, J_add, J_sub, J_mul, J_neg, J_lt, J_le, J_eq, gArr_J, gAst_J, gSiz_J, gFld_o, gUpd_o0, gUpd_o1, gUpd_o2, gUpd_o3, gUpd_o4, gUpd_o5, gUpd_o6, gUpd_o7, gUpd_o8, gUpd_o9, gUpd_o10, gUpd_o11, gUpd_o12, gUpd_o13, gUpd_o14, gUpd_o15, gUpd_o16, gUpd_o17, gUpd_o18, gIsO_o, Option.bind_some, List.getElem?_cons_zero, List.getElem?_cons_succ, List.length_cons, List.length_nil, List.set_cons_zero, List.set_cons_succ, gCat_nil, gCat_int, gCat_ref, if_pos, if_neg, Option.toList_some, Option.toList_none, List.cons_append, List.nil_append, B_nar, J1_nar, J0_nar, if_true, if_false, rd_wr_same, rd_wr_ne, true_and, and_true, B_0, B_1, not_true_eq_false, not_false_eq_true, rdM0, rdM1, rdM2, rdM3, rdM4, rdM5, rdM6, rdM7, rdM8, rdM9, rdM10, rdM11, rdM12, rset_at, rset_ne, rset_rset, w0M, wZ1, wZ2, wZ3, wZ4, wZ5, wZ6, wZ7, wZ8, wZ9, wZ10, wZ11, wZ12, f7_0, f7_1, f7_2, f7_3, f7_4, f7_5, f7_6, c1, c3, h]
  · rw [B_neg q1] at c1
    rw [if_neg q1]
    simp (disch := first | omega | exact Nat.le_of_ble_eq_true rfl) only [e176_0, e176_1, e176_2, e176_3, e176_6, e176_9, e176_10, e176_11, e176_12, e176_13, e176_16, e176_19, e176_20, e176_22, e176_23, e176_24, e176_26, e176_27, e176_31, e176_32, e176_35, e176_36, e176_37, e176_40, e176_41, e176_43, e176_46, e176_49, e176_50, e176_53, e176_54, e176_55, e176_56, e176_58, e176_59, e176_60, e176_63, e176_64, e176_65, e176_68, e176_69, e176_71, e176_73, e176_75, e176_78, e176_80, e176_83, e176_84, e176_85, e176_87, e176_89, e176_92, e176_94, e176_97, e176_99, e176_101, e176_104, e176_107, e176_108, e176_110, e176_113, e176_115, e176_118, e176_119, e176_122, e176_123, e176_126, e176_128, J_add, J_sub, J_mul, J_neg, J_lt, J_le, J_eq, gArr_J, gAst_J, gSiz_J, gFld_o, gUpd_o0, gUpd_o1, gUpd_o2, gUpd_o3, gUpd_o4, gUpd_o5, gUpd_o6, gUpd_o7, gUpd_o8, gUpd_o9, gUpd_o10, gUpd_o11, gUpd_o12, gUpd_o13, gUpd_o14, gUpd_o15, gUpd_o16, gUpd_o17, gUpd_o18, gIsO_o, Option.bind_some, List.getElem?_cons_zero, List.getElem?_cons_succ, List.length_cons, List.length_nil, List.set_cons_zero, List.set_cons_succ, gCat_nil, gCat_int, gCat_ref, if_pos, if_neg, Option.toList_some, Option.toList_none, List.cons_append, List.nil_append, B_nar, J1_nar, J0_nar, if_true, if_false, rd_wr_same, rd_wr_ne, true_and, and_true, B_0, B_1, not_true_eq_false, not_false_eq_true, rdM0, rdM1, rdM2, rdM3, rdM4, rdM5, rdM6, rdM7, rdM8, rdM9, rdM10, rdM11, rdM12, rset_at, rset_ne, rset_rset, w0M, wZ1, wZ2, wZ3, wZ4, wZ5, wZ6, wZ7, wZ8, wZ9, wZ10, wZ11, wZ12, f7_0, f7_1, f7_2, f7_3, f7_4, f7_5, f7_6, c1]
