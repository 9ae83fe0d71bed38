def rowAt (f : Int → Int) (a : Int) : Int → Int := fun k => f (a + k)
theorem rowAt_e {f : Int → Int} {a k : Int} : rowAt f a k = f (a + k) := rfl
theorem sx (X : Lay) (i v j : Int) (h : j ≠ i) : sset X 0 i v 0 j = X 0 j := by
  rw [sset_fset, fset_ne h]
theorem l163 {nat : gNat} {d : Nat} {w : gWd} {x : Nat} {M : Lay} (hx : x + 12 < gSTR) (h4 : 0 ≤ M 0 4 ∧ M 0 4 < 8) : ∀ (k n : Nat), n + k = 17 → gX (gC nat d) nat 163 38 [some (.ref x), some (.int (J n))] [] [] (putM w x (rset M 6 (cpR (rowAt (M 8) (17 * M 0 4)) (M 6) 0 n))) = some (some (.int (J (M 0 3))), putM w x (rset M 6 (cpR (rowAt (M 8) (17 * M 0 4)) (M 6) 0 17))) := by
  intro k
  induction k with
  | zero =>
    intro n hn
    rw [Nat.add_zero] at hn
    subst hn
    rw [e163_38]
    simp (disch := first | omega | exact Nat.le_of_ble_eq_true rfl) only [e163_0, e163_1, e163_4, e163_7, e163_9, e163_10, e163_11, e163_12, e163_15, e163_17, e163_18, e163_19, e163_20, e163_22, e163_23, e163_26, e163_27, e163_27i, e163_28, e163_31, e163_32, e163_33, e163_36, e163_37, e163_39, e163_41, e163_44, e163_45, e163_48, e163_49, e163_50, e163_53, e163_55, e163_56, e163_59, e163_60, e163_61, e163_62, e163_63, e163_64, e163_67, e163_70, e163_71, e163_74, J_add, J_sub, J_mul, J_neg, J_lt, J_le, J_eq, gArr_J, gAst_J, gSiz_J, gFld_o, gUpd_o0, gUpd_o1, gUpd_o2, gUpd_o3, gUpd_o4, gUpd_o5, gUpd_o6, gUpd_o7, gUpd_o8, gUpd_o9, gUpd_o10, gUpd_o11, gUpd_o12, gUpd_o13, gUpd_o14, gUpd_o15, gUpd_o16, gUpd_o17, gUpd_o18, gIsO_o, Option.bind_some, List.getElem?_cons_zero, List.getElem?_cons_succ, List.length_cons, List.length_nil, List.set_cons_zero, List.set_cons_succ, gCat_nil, gCat_int, gCat_ref, if_pos, if_neg, Option.toList_some, Option.toList_none, List.cons_append, List.nil_append, B_nar, J1_nar, J0_nar, if_true, if_false, rd_wr_same, rd_wr_ne, true_and, and_true, B_0, B_1, not_true_eq_false, not_false_eq_true, rdM0, rdM1, rdM2, rdM3, rdM4, rdM5, rdM6, rdM7, rdM8, rdM9, rdM10, rdM11, rdM12, rset_at, rset_ne, rset_rset, w0M, wZ1, wZ2, wZ3, wZ4, wZ5, wZ6, wZ7, wZ8, wZ9, wZ10, wZ11, wZ12, f7_0, f7_1, f7_2, f7_3, f7_4, f7_5, f7_6]
  | succ k ih =>
    intro n hn
    have this := ih (n + 1) (by omega)
    rw [← cpR_s, show ((n + 1 : Nat) : Int) = (n : Int) + 1 from rfl, Int.zero_add, rowAt_e] at this
    rw [e163_38]
    simp (disch := first | omega | exact Nat.le_of_ble_eq_true rfl) only [e163_0, e163_1, e163_4, e163_7, e163_9, e163_10, e163_11, e163_12, e163_15, e163_17, e163_18, e163_19, e163_20, e163_22, e163_23, e163_26, e163_27, e163_27i, e163_28, e163_31, e163_32, e163_33, e163_36, e163_37, e163_39, e163_41, e163_44, e163_45, e163_48, e163_49, e163_50, e163_53, e163_55, e163_56, e163_59, e163_60, e163_61, e163_62, e163_63, e163_64, e163_67, e163_70, e163_71, e163_74, J_add, J_sub, J_mul, J_neg, J_lt, J_le, J_eq, gArr_J, gAst_J, gSiz_J, gFld_o, gUpd_o0, gUpd_o1, gUpd_o2, gUpd_o3, gUpd_o4, gUpd_o5, gUpd_o6, gUpd_o7, gUpd_o8, gUpd_o9, gUpd_o10, gUpd_o11, gUpd_o12, gUpd_o13, gUpd_o14, gUpd_o15, gUpd_o16, gUpd_o17, gUpd_o18, gIsO_o, Option.bind_some, List.getElem?_cons_zero, List.getElem?_cons_succ, List.length_cons, List.length_nil, List.set_cons_zero, List.set_cons_succ, gCat_nil, gCat_int, gCat_ref, if_pos, if_neg, Option.toList_some, Option.toList_none, List.cons_append, List.nil_append, B_nar, J1_nar, J0_nar, if_true, if_false, rd_wr_same, rd_wr_ne, true_and, and_true, B_0, B_1, not_true_eq_false, not_false_eq_true, rdM0, rdM1, rdM2, rdM3, rdM4, rdM5, rdM6, rdM7, rdM8, rdM9, rdM10, rdM11, rdM12, rset_at, rset_ne, rset_rset, w0M, wZ1, wZ2, wZ3, wZ4, wZ5, wZ6, wZ7, wZ8, wZ9, wZ10, wZ11, wZ12, f7_0, f7_1, f7_2, f7_3, f7_4, f7_5, f7_6, this]

theorem l189 {nat : gNat} {d : Nat} {w : gWd} {x : Nat} {M : Lay} (hx : x + 12 < gSTR) (h6 : 0 ≤ M 0 6 ∧ M 0 6 < 2) : ∀ (k n : Nat), n + k = 17 → gX (gC nat d) nat 189 27 [some (.ref x), some (.int (J n))] [] [] (putM w x (rset M 6 (cpR (rowAt (M 12) (17 * M 0 6)) (M 6) 0 n))) = some (some (.int (J (M 0 6))), putM w x (rset M 6 (cpR (rowAt (M 12) (17 * M 0 6)) (M 6) 0 17))) := by
  intro k
  induction k with
  | zero =>
    intro n hn
    rw [Nat.add_zero] at hn
    subst hn
    rw [e189_27]
    simp (disch := first | omega | exact Nat.le_of_ble_eq_true rfl) only [e189_0, e189_1, e189_4, e189_7, e189_9, e189_10, e189_11, e189_11i, e189_12, e189_15, e189_16, e189_17, e189_20, e189_21, e189_22, e189_25, e189_26, e189_28, e189_30, e189_33, e189_34, e189_37, e189_38, e189_39, e189_42, e189_44, e189_45, e189_48, e189_49, e189_50, e189_51, e189_52, e189_53, e189_56, e189_59, e189_60, e189_63, J_add, J_sub, J_mul, J_neg, J_lt, J_le, J_eq, gArr_J, gAst_J, gSiz_J, gFld_o, gUpd_o0, gUpd_o1, gUpd_o2, gUpd_o3, gUpd_o4, gUpd_o5, gUpd_o6, gUpd_o7, gUpd_o8, gUpd_o9, gUpd_o10, gUpd_o11, gUpd_o12, gUpd_o13, gUpd_o14, gUpd_o15, gUpd_o16, gUpd_o17, gUpd_o18, gIsO_o, Option.bind_some, List.getElem?_cons_zero, List.getElem?_cons_succ, List.length_cons, List.length_nil, List.set_cons_zero, List.set_cons_succ, gCat_nil, gCat_int, gCat_ref, if_pos, if_neg, Option.toList_some, Option.toList_none, List.cons_append, List.nil_append, B_nar, J1_nar, J0_nar, if_true, if_false, rd_wr_same, rd_wr_ne, true_and, and_true, B_0, B_1, not_true_eq_false, not_false_eq_true, rdM0, rdM1, rdM2, rdM3, rdM4, rdM5, rdM6, rdM7, rdM8, rdM9, rdM10, rdM11, rdM12, rset_at, rset_ne, rset_rset, w0M, wZ1, wZ2, wZ3, wZ4, wZ5, wZ6, wZ7, wZ8, wZ9, wZ10, wZ11, wZ12, f7_0, f7_1, f7_2, f7_3, f7_4, f7_5, f7_6]
  | succ k ih =>
    intro n hn
    have this := ih (n + 1) (by omega)
    rw [← cpR_s, show ((n + 1 : Nat) : Int) = (n : Int) + 1 from rfl, Int.zero_add, rowAt_e] at this
    rw [e189_27]
    simp (disch := first | omega | exact Nat.le_of_ble_eq_true rfl) only [e189_0, e189_1, e189_4, e189_7, e189_9, e189_10, e189_11, e189_11i, e189_12, e189_15, e189_16, e189_17, e189_20, e189_21, e189_22, e189_25, e189_26, e189_28, e189_30, e189_33, e189_34, e189_37, e189_38, e189_39, e189_42, e189_44, e189_45, e189_48, e189_49, e189_50, e189_51, e189_52, e189_53, e189_56, e189_59, e189_60, e189_63, J_add, J_sub, J_mul, J_neg, J_lt, J_le, J_eq, gArr_J, gAst_J, gSiz_J, gFld_o, gUpd_o0, gUpd_o1, gUpd_o2, gUpd_o3, gUpd_o4, gUpd_o5, gUpd_o6, gUpd_o7, gUpd_o8, gUpd_o9, gUpd_o10, gUpd_o11, gUpd_o12, gUpd_o13, gUpd_o14, gUpd_o15, gUpd_o16, gUpd_o17, gUpd_o18, gIsO_o, Option.bind_some, List.getElem?_cons_zero, List.getElem?_cons_succ, List.length_cons, List.length_nil, List.set_cons_zero, List.set_cons_succ, gCat_nil, gCat_int, gCat_ref, if_pos, if_neg, Option.toList_some, Option.toList_none, List.cons_append, List.nil_append, B_nar, J1_nar, J0_nar, if_true, if_false, rd_wr_same, rd_wr_ne, true_and, and_true, B_0, B_1, not_true_eq_false, not_false_eq_true, rdM0, rdM1, rdM2, rdM3, rdM4, rdM5, rdM6, rdM7, rdM8, rdM9, rdM10, rdM11, rdM12, rset_at, rset_ne, rset_rset, w0M, wZ1, wZ2, wZ3, wZ4, wZ5, wZ6, wZ7, wZ8, wZ9, wZ10, wZ11, wZ12, f7_0, f7_1, f7_2, f7_3, f7_4, f7_5, f7_6, this]

theorem l188 {nat : gNat} {d : Nat} {w : gWd} {x : Nat} {M : Lay} (hx : x + 12 < gSTR) (h6 : 0 ≤ M 0 6 ∧ M 0 6 < 2) : ∀ (k n : Nat), n + k = 17 → gX (gC nat d) nat 188 13 [some (.ref x), some (.int (J n))] [] [] (putM w x (rset M 12 (cpR (M 6) (M 12) (17 * M 0 6) n))) = some (some (.int (J (M 0 6 + 1))), putM w x (rset (rset M 12 (cpR (M 6) (M 12) (17 * M 0 6) 17)) 0 (f7 (M 0 0) (M 0 1) (M 0 2) (M 0 3) (M 0 4) (M 0 5) (M 0 6 + 1)))) := by
  intro k
  induction k with
  | zero =>
    intro n hn
    rw [Nat.add_zero] at hn
    subst hn
    rw [e188_13]
    simp (disch := first | omega | exact Nat.le_of_ble_eq_true rfl) only [e188_0, e188_1, e188_4, e188_5, e188_8, e188_10, e188_11, e188_12, e188_14, e188_16, e188_19, e188_20, e188_23, e188_25, e188_26, e188_29, e188_30, e188_31, e188_32, e188_33, e188_36, e188_37, e188_38, e188_39, e188_42, e188_45, e188_46, e188_46i, e188_47, e188_50, e188_51, e188_52, e188_55, e188_56, e188_59, J_add, J_sub, J_mul, J_neg, J_lt, J_le, J_eq, gArr_J, gAst_J, gSiz_J, gFld_o, gUpd_o0, gUpd_o1, gUpd_o2, gUpd_o3, gUpd_o4, gUpd_o5, gUpd_o6, gUpd_o7, gUpd_o8, gUpd_o9, gUpd_o10, gUpd_o11, gUpd_o12, gUpd_o13, gUpd_o14, gUpd_o15, gUpd_o16, gUpd_o17, gUpd_o18, gIsO_o, Option.bind_some, List.getElem?_cons_zero, List.getElem?_cons_succ, List.length_cons, List.length_nil, List.set_cons_zero, List.set_cons_succ, gCat_nil, gCat_int, gCat_ref, if_pos, if_neg, Option.toList_some, Option.toList_none, List.cons_append, List.nil_append, B_nar, J1_nar, J0_nar, if_true, if_false, rd_wr_same, rd_wr_ne, true_and, and_true, B_0, B_1, not_true_eq_false, not_false_eq_true, rdM0, rdM1, rdM2, rdM3, rdM4, rdM5, rdM6, rdM7, rdM8, rdM9, rdM10, rdM11, rdM12, rset_at, rset_ne, rset_rset, w0M, wZ1, wZ2, wZ3, wZ4, wZ5, wZ6, wZ7, wZ8, wZ9, wZ10, wZ11, wZ12, f7_0, f7_1, f7_2, f7_3, f7_4, f7_5, f7_6]
  | succ k ih =>
    intro n hn
    have this := ih (n + 1) (by omega)
    rw [← cpR_s, show ((n + 1 : Nat) : Int) = (n : Int) + 1 from rfl] at this
    rw [e188_13]
    simp (disch := first | omega | exact Nat.le_of_ble_eq_true rfl) only [e188_0, e188_1, e188_4, e188_5, e188_8, e188_10, e188_11, e188_12, e188_14, e188_16, e188_19, e188_20, e188_23, e188_25, e188_26, e188_29, e188_30, e188_31, e188_32, e188_33, e188_36, e188_37, e188_38, e188_39, e188_42, e188_45, e188_46, e188_46i, e188_47, e188_50, e188_51, e188_52, e188_55, e188_56, e188_59, J_add, J_sub, J_mul, J_neg, J_lt, J_le, J_eq, gArr_J, gAst_J, gSiz_J, gFld_o, gUpd_o0, gUpd_o1, gUpd_o2, gUpd_o3, gUpd_o4, gUpd_o5, gUpd_o6, gUpd_o7, gUpd_o8, gUpd_o9, gUpd_o10, gUpd_o11, gUpd_o12, gUpd_o13, gUpd_o14, gUpd_o15, gUpd_o16, gUpd_o17, gUpd_o18, gIsO_o, Option.bind_some, List.getElem?_cons_zero, List.getElem?_cons_succ, List.length_cons, List.length_nil, List.set_cons_zero, List.set_cons_succ, gCat_nil, gCat_int, gCat_ref, if_pos, if_neg, Option.toList_some, Option.toList_none, List.cons_append, List.nil_append, B_nar, J1_nar, J0_nar, if_true, if_false, rd_wr_same, rd_wr_ne, true_and, and_true, B_0, B_1, not_true_eq_false, not_false_eq_true, rdM0, rdM1, rdM2, rdM3, rdM4, rdM5, rdM6, rdM7, rdM8, rdM9, rdM10, rdM11, rdM12, rset_at, rset_ne, rset_rset, w0M, wZ1, wZ2, wZ3, wZ4, wZ5, wZ6, wZ7, wZ8, wZ9, wZ10, wZ11, wZ12, f7_0, f7_1, f7_2, f7_3, f7_4, f7_5, f7_6, this]


theorem z163 {nat : gNat} {d : Nat} {w : gWd} {x : Nat} {t : Int} {X K S : Lay} {PT KT : Nat → Lay} {M : Lay} (hx : x + 12 < gSTR) (hI : stI t X K S PT KT M) (ht : t ≤ 1000) : ∃ M', gC nat (d + 4) 163 [.ref x] (putM w x M) = some (some (.int (J (if X 0 1 < 1 then -2 else X 0 1 - 1))), putM w x M') ∧ stI t (if X 0 1 < 1 then X else sset X 0 1 (X 0 1 - 1)) K (if X 0 1 < 1 then S else PT ((X 0 2 + (X 0 1 - 1)) % 8).toNat) PT KT M' := by
  obtain ⟨iR, hK, ⟨k1p, k2p⟩, ⟨hS, hH⟩, iP, iKp, iE, iT, hL, hR, ⟨m0, m3, m4, m5, m6⟩⟩ := id hI
  obtain ⟨r0, r1, r2, r3, r4, r5⟩ := id iR
  rw [en163]
  by_cases q : X 0 1 < 1
  · rw [if_pos q, if_pos q, if_pos q]
    refine ⟨M, ?_, hI⟩
    have q0 : M 0 3 = 0 := by omega
    simp (disch := first | omega | exact Nat.le_of_ble_eq_true rfl) only [e163_0, e163_1, e163_4, e163_7, e163_9, e163_10, e163_11, e163_12, e163_15, e163_17, e163_18, e163_19, e163_20, e163_22, e163_23, e163_26, e163_27, e163_27i, e163_28, e163_31, e163_32, e163_33, e163_36, e163_37, e163_39, e163_41, e163_44, e163_45, e163_48, e163_49, e163_50, e163_53, e163_55, e163_56, e163_59, e163_60, e163_61, e163_62, e163_63, e163_64, e163_67, e163_70, e163_71, e163_74, J_add, J_sub, J_mul, J_neg, J_lt, J_le, J_eq, gArr_J, gAst_J, gSiz_J, gFld_o, gUpd_o0, gUpd_o1, gUpd_o2, gUpd_o3, gUpd_o4, gUpd_o5, gUpd_o6, gUpd_o7, gUpd_o8, gUpd_o9, gUpd_o10, gUpd_o11, gUpd_o12, gUpd_o13, gUpd_o14, gUpd_o15, gUpd_o16, gUpd_o17, gUpd_o18, gIsO_o, Option.bind_some, List.getElem?_cons_zero, List.getElem?_cons_succ, List.length_cons, List.length_nil, List.set_cons_zero, List.set_cons_succ, gCat_nil, gCat_int, gCat_ref, if_pos, if_neg, Option.toList_some, Option.toList_none, List.cons_append, List.nil_append, B_nar, J1_nar, J0_nar, if_true, if_false, rd_wr_same, rd_wr_ne, true_and, and_true, B_0, B_1, not_true_eq_false, not_false_eq_true, rdM0, rdM1, rdM2, rdM3, rdM4, rdM5, rdM6, rdM7, rdM8, rdM9, rdM10, rdM11, rdM12, rset_at, rset_ne, rset_rset, w0M, wZ1, wZ2, wZ3, wZ4, wZ5, wZ6, wZ7, wZ8, wZ9, wZ10, wZ11, wZ12, f7_0, f7_1, f7_2, f7_3, f7_4, f7_5, f7_6, q0]
  · rw [if_neg q, if_neg q, if_neg q]
    obtain ⟨⟨hp1, hp2⟩, hp3⟩ := iP (X 0 1 - 1) (by omega) (by omega)
    have h1 := l163 (nat := nat) (d := d + 3) (w := w) (M := rset M 0 (f7 (M 0 0) (M 0 1) (M 0 2) (M 0 3 - 1) ((M 0 4 + 7) % 8) (M 0 5) (M 0 6))) hx (by rw [rset_at, f7_4]; omega) 17 0 (by omega)
    rw [cpR_z, rset_at, f7_4, f7_3, rset_ne (show (6 : Int) ≠ 0 by decide), rset_ne (show (8 : Int) ≠ 0 by decide), show ((0 : Nat) : Int) = 0 from rfl] at h1
    have e0 : rset (rset M 0 (f7 (M 0 0) (M 0 1) (M 0 2) (M 0 3 - 1) ((M 0 4 + 7) % 8) (M 0 5) (M 0 6))) 6 (M 6) = rset M 0 (f7 (M 0 0) (M 0 1) (M 0 2) (M 0 3 - 1) ((M 0 4 + 7) % 8) (M 0 5) (M 0 6)) := by
      funext a
      unfold rset
      by_cases z : a = 6
      · subst z
        rfl
      · rw [if_neg z]
    rw [e0] at h1
    refine ⟨rset (rset M 0 (f7 (M 0 0) (M 0 1) (M 0 2) (M 0 3 - 1) ((M 0 4 + 7) % 8) (M 0 5) (M 0 6))) 6 (cpR (rowAt (M 8) (17 * ((M 0 4 + 7) % 8))) (M 6) 0 17), ?_, ?_⟩
    · have e7 : M 0 4 + 8 - 1 = M 0 4 + 7 := by omega
      rw [← m3]
      simp (disch := first | omega | exact Nat.le_of_ble_eq_true rfl) only [e163_0, e163_1, e163_4, e163_7, e163_9, e163_10, e163_11, e163_12, e163_15, e163_17, e163_18, e163_19, e163_20, e163_22, e163_23, e163_26, e163_27, e163_27i, e163_28, e163_31, e163_32, e163_33, e163_36, e163_37, e163_39, e163_41, e163_44, e163_45, e163_48, e163_49, e163_50, e163_53, e163_55, e163_56, e163_59, e163_60, e163_61, e163_62, e163_63, e163_64, e163_67, e163_70, e163_71, e163_74, J_add, J_sub, J_mul, J_neg, J_lt, J_le, J_eq, gArr_J, gAst_J, gSiz_J, gFld_o, gUpd_o0, gUpd_o1, gUpd_o2, gUpd_o3, gUpd_o4, gUpd_o5, gUpd_o6, gUpd_o7, gUpd_o8, gUpd_o9, gUpd_o10, gUpd_o11, gUpd_o12, gUpd_o13, gUpd_o14, gUpd_o15, gUpd_o16, gUpd_o17, gUpd_o18, gIsO_o, Option.bind_some, List.getElem?_cons_zero, List.getElem?_cons_succ, List.length_cons, List.length_nil, List.set_cons_zero, List.set_cons_succ, gCat_nil, gCat_int, gCat_ref, if_pos, if_neg, Option.toList_some, Option.toList_none, List.cons_append, List.nil_append, B_nar, J1_nar, J0_nar, if_true, if_false, rd_wr_same, rd_wr_ne, true_and, and_true, B_0, B_1, not_true_eq_false, not_false_eq_true, rdM0, rdM1, rdM2, rdM3, rdM4, rdM5, rdM6, rdM7, rdM8, rdM9, rdM10, rdM11, rdM12, rset_at, rset_ne, rset_rset, w0M, wZ1, wZ2, wZ3, wZ4, wZ5, wZ6, wZ7, wZ8, wZ9, wZ10, wZ11, wZ12, f7_0, f7_1, f7_2, f7_3, f7_4, f7_5, f7_6, h1, e7, J_div, I_mod, J_ne0]
    · refine stI_S (S := S) (M := rset M 0 (f7 (M 0 0) (M 0 1) (M 0 2) (M 0 3 - 1) ((M 0 4 + 7) % 8) (M 0 5) (M 0 6))) ?_ hp1 hp2 ?_
      · refine ⟨⟨by rw [sx _ _ _ _ (by decide)]; exact r0, fun i i1 i2 => by rw [sset_row (by decide)]; exact r1 i i1 i2, by rw [sset_at]; omega, by rw [sx _ _ _ _ (by decide)]; exact r3, by rw [sx _ _ _ _ (by decide)]; exact r4, by rw [sx _ _ _ _ (by decide)]; exact r5⟩, hK, ⟨k1p, k2p⟩, ⟨hS, hH⟩, ?_, ?_, ?_, ?_, ?_, ?_, ?_⟩
        · intro i i1 i2
          rw [sset_at] at i2
          rw [sset_at, sx _ _ _ _ (by decide), rset_at, f7_4, rset_ne (by decide)]
          have hp := iP i i1 (by omega)
          have ei : ((M 0 4 + 7) % 8 - (X 0 1 - 1) + i) % 8 = (M 0 4 - X 0 1 + i) % 8 := by omega
          rw [ei]
          exact hp
        · unfold kI
          rw [sx _ _ _ _ (by decide), rset_ne (by decide)]
          exact iKp
        · unfold sI
          rw [sx _ _ _ _ (by decide), sset_row (by decide), sset_row (by decide), sset_row (by decide), rset_ne (by decide), rset_ne (by decide), rset_ne (by decide)]
          exact iE
        · unfold tI
          rw [sx _ _ _ _ (by decide), sset_row (by decide), rset_ne (by decide)]
          exact iT
        · rw [rset_ne (by decide)]
          exact hL
        · rw [rset_ne (by decide)]
          exact hR
        · rw [rset_at, f7_0, f7_3, f7_4, f7_5, f7_6, sset_at, sx _ _ _ _ (by decide), sx _ _ _ _ (by decide), sx _ _ _ _ (by decide), m3]
          exact ⟨m0, rfl, by omega, m5, m6⟩
      · refine mRow_cp hK (mRow_congr hK hp3 (fun k k1 k2 => ?_))
        have ei : (M 0 4 - X 0 1 + (X 0 1 - 1)) % 8 = (M 0 4 + 7) % 8 := by omega
        rw [rowAt_e, ei]

theorem z188 {nat : gNat} {d : Nat} {w : gWd} {x : Nat} {t : Int} {X K S : Lay} {PT KT : Nat → Lay} {M : Lay} (hx : x + 12 < gSTR) (hI : stI t X K S PT KT M) (ht : t ≤ 1000) : ∃ M', gC nat (d + 4) 188 [.ref x] (putM w x M) = some (some (.int (J (if 2 ≤ X 0 3 then -3 else X 0 3 + 1))), putM w x M') ∧ stI t (if 2 ≤ X 0 3 then X else sset X 0 3 (X 0 3 + 1)) K S PT (if 2 ≤ X 0 3 then KT else fun i => if i = (X 0 3).toNat then S else KT i) M' := by
  obtain ⟨iR, hK, ⟨k1p, k2p⟩, ⟨hS, hH⟩, iP, iKp, iE, iT, hL, hR, ⟨m0, m3, m4, m5, m6⟩⟩ := id hI
  obtain ⟨r0, r1, r2, r3, r4, r5⟩ := id iR
  rw [en188]
  by_cases q : 2 ≤ X 0 3
  · rw [if_pos q, if_pos q, if_pos q]
    refine ⟨M, ?_, hI⟩
    have q0 : M 0 6 = 2 := by omega
    simp (disch := first | omega | exact Nat.le_of_ble_eq_true rfl) only [e188_0, e188_1, e188_4, e188_5, e188_8, e188_10, e188_11, e188_12, e188_14, e188_16, e188_19, e188_20, e188_23, e188_25, e188_26, e188_29, e188_30, e188_31, e188_32, e188_33, e188_36, e188_37, e188_38, e188_39, e188_42, e188_45, e188_46, e188_46i, e188_47, e188_50, e188_51, e188_52, e188_55, e188_56, e188_59, J_add, J_sub, J_mul, J_neg, J_lt, J_le, J_eq, gArr_J, gAst_J, gSiz_J, gFld_o, gUpd_o0, gUpd_o1, gUpd_o2, gUpd_o3, gUpd_o4, gUpd_o5, gUpd_o6, gUpd_o7, gUpd_o8, gUpd_o9, gUpd_o10, gUpd_o11, gUpd_o12, gUpd_o13, gUpd_o14, gUpd_o15, gUpd_o16, gUpd_o17, gUpd_o18, gIsO_o, Option.bind_some, List.getElem?_cons_zero, List.getElem?_cons_succ, List.length_cons, List.length_nil, List.set_cons_zero, List.set_cons_succ, gCat_nil, gCat_int, gCat_ref, if_pos, if_neg, Option.toList_some, Option.toList_none, List.cons_append, List.nil_append, B_nar, J1_nar, J0_nar, if_true, if_false, rd_wr_same, rd_wr_ne, true_and, and_true, B_0, B_1, not_true_eq_false, not_false_eq_true, rdM0, rdM1, rdM2, rdM3, rdM4, rdM5, rdM6, rdM7, rdM8, rdM9, rdM10, rdM11, rdM12, rset_at, rset_ne, rset_rset, w0M, wZ1, wZ2, wZ3, wZ4, wZ5, wZ6, wZ7, wZ8, wZ9, wZ10, wZ11, wZ12, f7_0, f7_1, f7_2, f7_3, f7_4, f7_5, f7_6, q0]
  · rw [if_neg q, if_neg q, if_neg q]
    have h1 := l188 (nat := nat) (d := d + 3) (w := w) (M := M) hx (by omega) 17 0 (by omega)
    rw [cpR_z, rset_self, show ((0 : Nat) : Int) = 0 from rfl] at h1
    refine ⟨rset (rset M 12 (cpR (M 6) (M 12) (17 * M 0 6) 17)) 0 (f7 (M 0 0) (M 0 1) (M 0 2) (M 0 3) (M 0 4) (M 0 5) (M 0 6 + 1)), ?_, ?_⟩
    · rw [← m6]
      simp (disch := first | omega | exact Nat.le_of_ble_eq_true rfl) only [e188_0, e188_1, e188_4, e188_5, e188_8, e188_10, e188_11, e188_12, e188_14, e188_16, e188_19, e188_20, e188_23, e188_25, e188_26, e188_29, e188_30, e188_31, e188_32, e188_33, e188_36, e188_37, e188_38, e188_39, e188_42, e188_45, e188_46, e188_46i, e188_47, e188_50, e188_51, e188_52, e188_55, e188_56, e188_59, J_add, J_sub, J_mul, J_neg, J_lt, J_le, J_eq, gArr_J, gAst_J, gSiz_J, gFld_o, gUpd_o0, gUpd_o1, gUpd_o2, gUpd_o3, gUpd_o4, gUpd_o5, gUpd_o6, gUpd_o7, gUpd_o8, gUpd_o9, gUpd_o10, gUpd_o11, gUpd_o12, gUpd_o13, gUpd_o14, gUpd_o15, gUpd_o16, gUpd_o17, gUpd_o18, gIsO_o, Option.bind_some, List.getElem?_cons_zero, List.getElem?_cons_succ, List.length_cons, List.length_nil, List.set_cons_zero, List.set_cons_succ, gCat_nil, gCat_int, gCat_ref, if_pos, if_neg, Option.toList_some, Option.toList_none, List.cons_append, List.nil_append, B_nar, J1_nar, J0_nar, if_true, if_false, rd_wr_same, rd_wr_ne, true_and, and_true, B_0, B_1, not_true_eq_false, not_false_eq_true, rdM0, rdM1, rdM2, rdM3, rdM4, rdM5, rdM6, rdM7, rdM8, rdM9, rdM10, rdM11, rdM12, rset_at, rset_ne, rset_rset, w0M, wZ1, wZ2, wZ3, wZ4, wZ5, wZ6, wZ7, wZ8, wZ9, wZ10, wZ11, wZ12, f7_0, f7_1, f7_2, f7_3, f7_4, f7_5, f7_6, h1]
    · refine ⟨⟨by rw [sx _ _ _ _ (by decide)]; exact r0, fun i i1 i2 => by rw [sset_row (by decide)]; exact r1 i i1 i2, by rw [sx _ _ _ _ (by decide)]; exact r2, by rw [sx _ _ _ _ (by decide)]; exact r3, by rw [sset_at]; omega, by rw [sx _ _ _ _ (by decide)]; exact r5⟩, hK, ⟨k1p, k2p⟩, ⟨hS, hH⟩, ?_, ?_, ?_, ?_, ?_, ?_, ?_⟩
      · unfold pI
        rw [sx _ _ _ _ (by decide), sx _ _ _ _ (by decide), rset_at, f7_4, rset_ne (by decide), rset_ne (by decide)]
        exact iP
      · intro i i1 i2
        rw [sset_at] at i2
        rw [rset_ne (by decide), rset_at]
        by_cases z : i = X 0 3
        · have e : (fun i : Nat => if i = (X 0 3).toNat then S else KT i) i.toNat = S := if_pos (by rw [z])
          rw [e]
          refine ⟨⟨hS, hH⟩, mRow_congr hK hR (fun k k1 k2 => ?_)⟩
          rw [cpR_at _ _ _ _ (by omega), show 17 * i + k - 17 * M 0 6 = k from by omega]
        · have hp := iKp i i1 (by omega)
          have e : (fun i : Nat => if i = (X 0 3).toNat then S else KT i) i.toNat = KT i.toNat := if_neg (by omega)
          rw [e]
          refine ⟨hp.1, mRow_congr hK hp.2 (fun k k1 k2 => ?_)⟩
          rw [cpR_ne _ _ _ _ (by omega)]
      · unfold sI
        rw [sx _ _ _ _ (by decide), sset_row (by decide), sset_row (by decide), sset_row (by decide), rset_ne (by decide), rset_ne (by decide), rset_ne (by decide), rset_ne (by decide), rset_ne (by decide), rset_ne (by decide)]
        exact iE
      · unfold tI
        rw [sx _ _ _ _ (by decide), sset_row (by decide), rset_ne (by decide), rset_ne (by decide)]
        exact iT
      · rw [rset_ne (by decide), rset_ne (by decide)]
        exact hL
      · rw [rset_ne (by decide), rset_ne (by decide)]
        exact hR
      · rw [rset_at, f7_0, f7_3, f7_4, f7_5, f7_6, sset_at, sx _ _ _ _ (by decide), sx _ _ _ _ (by decide), sx _ _ _ _ (by decide), m6]
        exact ⟨m0, m3, m4, m5, rfl⟩

theorem z189 {nat : gNat} {d : Nat} {w : gWd} {x : Nat} {t : Int} {X K S : Lay} {PT KT : Nat → Lay} {M : Lay} (hx : x + 12 < gSTR) (hI : stI t X K S PT KT M) (ht : t ≤ 1000) : ∃ M', gC nat (d + 4) 189 [.ref x] (putM w x M) = some (some (.int (J (if X 0 3 < 1 then -2 else X 0 3 - 1))), putM w x M') ∧ stI t (if X 0 3 < 1 then X else sset (sset X 0 3 (X 0 3 - 1)) 0 1 0) K (if X 0 3 < 1 then S else KT (X 0 3 - 1).toNat) PT KT M' := by
  obtain ⟨iR, hK, ⟨k1p, k2p⟩, ⟨hS, hH⟩, iP, iKp, iE, iT, hL, hR, ⟨m0, m3, m4, m5, m6⟩⟩ := id hI
  obtain ⟨r0, r1, r2, r3, r4, r5⟩ := id iR
  rw [en189]
  by_cases q : X 0 3 < 1
  · rw [if_pos q, if_pos q, if_pos q]
    refine ⟨M, ?_, hI⟩
    have q0 : M 0 6 = 0 := by omega
    simp (disch := first | omega | exact Nat.le_of_ble_eq_true rfl) only [e189_0, e189_1, e189_4, e189_7, e189_9, e189_10, e189_11, e189_11i, e189_12, e189_15, e189_16, e189_17, e189_20, e189_21, e189_22, e189_25, e189_26, e189_28, e189_30, e189_33, e189_34, e189_37, e189_38, e189_39, e189_42, e189_44, e189_45, e189_48, e189_49, e189_50, e189_51, e189_52, e189_53, e189_56, e189_59, e189_60, e189_63, J_add, J_sub, J_mul, J_neg, J_lt, J_le, J_eq, gArr_J, gAst_J, gSiz_J, gFld_o, gUpd_o0, gUpd_o1, gUpd_o2, gUpd_o3, gUpd_o4, gUpd_o5, gUpd_o6, gUpd_o7, gUpd_o8, gUpd_o9, gUpd_o10, gUpd_o11, gUpd_o12, gUpd_o13, gUpd_o14, gUpd_o15, gUpd_o16, gUpd_o17, gUpd_o18, gIsO_o, Option.bind_some, List.getElem?_cons_zero, List.getElem?_cons_succ, List.length_cons, List.length_nil, List.set_cons_zero, List.set_cons_succ, gCat_nil, gCat_int, gCat_ref, if_pos, if_neg, Option.toList_some, Option.toList_none, List.cons_append, List.nil_append, B_nar, J1_nar, J0_nar, if_true, if_false, rd_wr_same, rd_wr_ne, true_and, and_true, B_0, B_1, not_true_eq_false, not_false_eq_true, rdM0, rdM1, rdM2, rdM3, rdM4, rdM5, rdM6, rdM7, rdM8, rdM9, rdM10, rdM11, rdM12, rset_at, rset_ne, rset_rset, w0M, wZ1, wZ2, wZ3, wZ4, wZ5, wZ6, wZ7, wZ8, wZ9, wZ10, wZ11, wZ12, f7_0, f7_1, f7_2, f7_3, f7_4, f7_5, f7_6, q0]
  · rw [if_neg q, if_neg q, if_neg q]
    obtain ⟨⟨hp1, hp2⟩, hp3⟩ := iKp (X 0 3 - 1) (by omega) (by omega)
    have h1 := l189 (nat := nat) (d := d + 3) (w := w) (M := rset M 0 (f7 (M 0 0) (M 0 1) (M 0 2) 0 (M 0 4) (M 0 5) (M 0 6 - 1))) hx (by rw [rset_at, f7_6]; omega) 17 0 (by omega)
    rw [cpR_z, rset_at, f7_6, rset_ne (show (6 : Int) ≠ 0 by decide), rset_ne (show (12 : Int) ≠ 0 by decide), show ((0 : Nat) : Int) = 0 from rfl] at h1
    have e0 : rset (rset M 0 (f7 (M 0 0) (M 0 1) (M 0 2) 0 (M 0 4) (M 0 5) (M 0 6 - 1))) 6 (M 6) = rset M 0 (f7 (M 0 0) (M 0 1) (M 0 2) 0 (M 0 4) (M 0 5) (M 0 6 - 1)) := by
      funext a
      unfold rset
      by_cases z : a = 6
      · subst z
        rfl
      · rw [if_neg z]
    rw [e0] at h1
    refine ⟨rset (rset M 0 (f7 (M 0 0) (M 0 1) (M 0 2) 0 (M 0 4) (M 0 5) (M 0 6 - 1))) 6 (cpR (rowAt (M 12) (17 * (M 0 6 - 1))) (M 6) 0 17), ?_, ?_⟩
    · rw [← m6]
      simp (disch := first | omega | exact Nat.le_of_ble_eq_true rfl) only [e189_0, e189_1, e189_4, e189_7, e189_9, e189_10, e189_11, e189_11i, e189_12, e189_15, e189_16, e189_17, e189_20, e189_21, e189_22, e189_25, e189_26, e189_28, e189_30, e189_33, e189_34, e189_37, e189_38, e189_39, e189_42, e189_44, e189_45, e189_48, e189_49, e189_50, e189_51, e189_52, e189_53, e189_56, e189_59, e189_60, e189_63, J_add, J_sub, J_mul, J_neg, J_lt, J_le, J_eq, gArr_J, gAst_J, gSiz_J, gFld_o, gUpd_o0, gUpd_o1, gUpd_o2, gUpd_o3, gUpd_o4, gUpd_o5, gUpd_o6, gUpd_o7, gUpd_o8, gUpd_o9, gUpd_o10, gUpd_o11, gUpd_o12, gUpd_o13, gUpd_o14, gUpd_o15, gUpd_o16, gUpd_o17, gUpd_o18, gIsO_o, Option.bind_some, List.getElem?_cons_zero, List.getElem?_cons_succ, List.length_cons, List.length_nil, List.set_cons_zero, List.set_cons_succ, gCat_nil, gCat_int, gCat_ref, if_pos, if_neg, Option.toList_some, Option.toList_none, List.cons_append, List.nil_append, B_nar, J1_nar, J0_nar, if_true, if_false, rd_wr_same, rd_wr_ne, true_and, and_true, B_0, B_1, not_true_eq_false, not_false_eq_true, rdM0, rdM1, rdM2, rdM3, rdM4, rdM5, rdM6, rdM7, rdM8, rdM9, rdM10, rdM11, rdM12, rset_at, rset_ne, rset_rset, w0M, wZ1, wZ2, wZ3, wZ4, wZ5, wZ6, wZ7, wZ8, wZ9, wZ10, wZ11, wZ12, f7_0, f7_1, f7_2, f7_3, f7_4, f7_5, f7_6, h1]
    · refine stI_S (S := S) (M := rset M 0 (f7 (M 0 0) (M 0 1) (M 0 2) 0 (M 0 4) (M 0 5) (M 0 6 - 1))) ?_ hp1 hp2 ?_
      · refine ⟨⟨by rw [sx _ _ _ _ (by decide), sx _ _ _ _ (by decide)]; exact r0, fun i i1 i2 => by rw [sset_row (by decide), sset_row (by decide)]; exact r1 i i1 i2, by rw [sset_at]; omega, by rw [sx _ _ _ _ (by decide), sx _ _ _ _ (by decide)]; exact r3, by rw [sx _ _ _ _ (by decide), sset_at]; omega, by rw [sx _ _ _ _ (by decide), sx _ _ _ _ (by decide)]; exact r5⟩, hK, ⟨k1p, k2p⟩, ⟨hS, hH⟩, ?_, ?_, ?_, ?_, ?_, ?_, ?_⟩
        · intro i i1 i2
          rw [sset_at] at i2
          omega
        · intro i i1 i2
          rw [sx _ _ _ _ (by decide), sset_at] at i2
          rw [rset_ne (by decide)]
          exact iKp i i1 (by omega)
        · unfold sI
          rw [sx _ _ _ _ (by decide), sx _ _ _ _ (by decide), sset_row (by decide), sset_row (by decide), sset_row (by decide), sset_row (by decide), sset_row (by decide), sset_row (by decide), rset_ne (by decide), rset_ne (by decide), rset_ne (by decide)]
          exact iE
        · unfold tI
          rw [sx _ _ _ _ (by decide), sx _ _ _ _ (by decide), sset_row (by decide), sset_row (by decide), rset_ne (by decide)]
          exact iT
        · rw [rset_ne (by decide)]
          exact hL
        · rw [rset_ne (by decide)]
          exact hR
        · rw [rset_at, f7_0, f7_3, f7_4, f7_5, f7_6, sset_at, sx _ _ _ _ (by decide), sx _ _ _ _ (by decide), sx _ _ _ _ (by decide), sx _ _ _ _ (by decide), sx _ _ _ _ (by decide), sset_at, m6]
          exact ⟨m0, rfl, m4, m5, rfl⟩
      · refine mRow_cp hK (mRow_congr hK hp3 (fun k k1 k2 => ?_))
        rw [rowAt_e, m6]
