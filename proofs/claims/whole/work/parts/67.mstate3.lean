theorem z125 {nat : gNat} {d : Nat} {w : gWd} {x : Nat} {t : Int} {X K S : Lay} {PT KT : Nat → Lay} {M : Lay} (hx : x + 12 < gSTR) (hI : stI t X K S PT KT M) (ht : t ≤ 1000) {l : Int} (h_l : -2147483648 ≤ l ∧ l < 2147483648) : ∃ M', gC nat (d + 4) 125 [.ref x, .int (J l)] (putM w x M) = some (some (.int (J (aWri X l))), putM w x M') ∧ stI t (wrX X l) K S PT KT M' := by
  obtain ⟨iR, hK, ⟨k1p, k2p⟩, ⟨hS, hH⟩, iP, iKp, iE, iT, hL, hR, ⟨m0, m3, m4, m5, m6⟩⟩ := id hI
  obtain ⟨r0, r1, r2, r3, r4, r5⟩ := id iR
  have c1 := s122 (nat := nat) (d := d + 2) (w := (putM w x M)) (v := l) (l := 32) (h := 126) (by omega) (by omega) (by omega)
  rw [en125]
  unfold aWri wrX
  by_cases q1 : 32 ≤ l ∧ l ≤ 126
  · rw [B_pos q1] at c1
    rw [if_pos q1]
    by_cases q2 : X 0 0 < 200
    · rw [if_pos q2, if_pos ⟨q1, q2⟩]
      refine ⟨rset (rset M 1 (fset (M 1) (M 0 0) l)) 0 (f7 (M 0 0 + 1) (M 0 1) (M 0 2) (M 0 3) (M 0 4) (M 0 5) (M 0 6)), ?_, ?_⟩
      · rw [← m0]
        simp (disch := first | omega | exact Nat.le_of_ble_eq_true rfl) only [e125_0, e125_1, e125_3, e125_5, e125_8, e125_11, e125_12, e125_13, e125_14, e125_17, e125_20, e125_23, e125_25, e125_26, e125_27, e125_30, e125_31, e125_34, e125_35, e125_36, e125_37, e125_37i, e125_38, e125_41, e125_42, e125_43, e125_46, e125_47, e125_50, J_add, J_sub, J_mul, J_neg, J_lt, J_le, J_eq, gArr_J, gAst_J, gSiz_J, gFld_o, gUpd_o0, gUpd_o1, gUpd_o2, gUpd_o3, gUpd_o4, gUpd_o5, gUpd_o6, gUpd_o7, gUpd_o8, gUpd_o9, gUpd_o10, gUpd_o11, gUpd_o12, gUpd_o13, gUpd_o14, gUpd_o15, gUpd_o16, gUpd_o17, gUpd_o18, gIsO_o, Option.bind_some, List.getElem?_cons_zero, List.getElem?_cons_succ, List.length_cons, List.length_nil, List.set_cons_zero, List.set_cons_succ, gCat_nil, gCat_int, gCat_ref, if_pos, if_neg, Option.toList_some, Option.toList_none, List.cons_append, List.nil_append, B_nar, J1_nar, J0_nar, if_true, if_false, rd_wr_same, rd_wr_ne, true_and, and_true, B_0, B_1, not_true_eq_false, not_false_eq_true, rdM0, rdM1, rdM2, rdM3, rdM4, rdM5, rdM6, rdM7, rdM8, rdM9, rdM10, rdM11, rdM12, rset_at, rset_ne, rset_rset, w0M, wZ1, wZ2, wZ3, wZ4, wZ5, wZ6, wZ7, wZ8, wZ9, wZ10, wZ11, wZ12, f7_0, f7_1, f7_2, f7_3, f7_4, f7_5, f7_6, c1]
      · refine ⟨⟨by rw [sset_at]; omega, fun i i1 i2 => ?_, by rw [sx _ _ _ _ (by decide), sset_row (show (0 : Int) ≠ 1 by decide)]; exact r2, by rw [sx _ _ _ _ (by decide), sset_row (show (0 : Int) ≠ 1 by decide)]; exact r3, by rw [sx _ _ _ _ (by decide), sset_row (show (0 : Int) ≠ 1 by decide)]; exact r4, by rw [sx _ _ _ _ (by decide), sset_row (show (0 : Int) ≠ 1 by decide)]; exact r5⟩, hK, ⟨k1p, k2p⟩, ⟨hS, hH⟩, ?_, ?_, ?_, ?_, ?_, ?_, ?_⟩
        · rw [sset_row (by decide), sset_fset]
          by_cases z : i = X 0 0
          · rw [z, fset_at]
            omega
          · rw [fset_ne z]
            exact r1 i i1 i2
        · unfold pI
          rw [sx _ _ _ _ (by decide), sx _ _ _ _ (by decide), sset_row (by decide), rset_at, f7_4, rset_ne (by decide), rset_ne (by decide)]
          exact iP
        · unfold kI
          rw [sx _ _ _ _ (by decide), sset_row (by decide), rset_ne (by decide), rset_ne (by decide)]
          exact iKp
        · unfold sI
          rw [sx _ _ _ _ (by decide), sset_row (show (0 : Int) ≠ 1 by decide), sset_row (show (2 : Int) ≠ 0 by decide), sset_row (show (2 : Int) ≠ 1 by decide), sset_row (show (3 : Int) ≠ 0 by decide), sset_row (show (3 : Int) ≠ 1 by decide), sset_row (show (4 : Int) ≠ 0 by decide), sset_row (show (4 : Int) ≠ 1 by decide), rset_ne (by decide), rset_ne (by decide), rset_ne (by decide), rset_ne (by decide), rset_ne (by decide), rset_ne (by decide)]
          exact iE
        · intro i i1 i2
          rw [sset_at] at i2
          rw [sset_row (by decide), sset_fset, rset_ne (by decide), rset_at, m0]
          by_cases z : i = X 0 0
          · rw [z, fset_at, fset_at]
          · rw [fset_ne z, fset_ne z]
            exact iT i i1 (by omega)
        · rw [rset_ne (by decide), rset_ne (by decide)]
          exact hL
        · rw [rset_ne (by decide), rset_ne (by decide)]
          exact hR
        · rw [rset_at, f7_0, f7_3, f7_4, f7_5, f7_6, sset_at, sx _ _ _ _ (by decide), sx _ _ _ _ (by decide), sx _ _ _ _ (by decide), sset_row (show (0 : Int) ≠ 1 by decide), m0]
          exact ⟨rfl, m3, m4, m5, m6⟩
    · rw [if_neg q2, if_neg (fun z => q2 z.2)]
      refine ⟨M, ?_, hI⟩
      have q0 : M 0 0 = 200 := by omega
      simp (disch := first | omega | exact Nat.le_of_ble_eq_true rfl) only [e125_0, e125_1, e125_3, e125_5, e125_8, e125_11, e125_12, e125_13, e125_14, e125_17, e125_20, e125_23, e125_25, e125_26, e125_27, e125_30, e125_31, e125_34, e125_35, e125_36, e125_37, e125_37i, e125_38, e125_41, e125_42, e125_43, e125_46, e125_47, e125_50, J_add, J_sub, J_mul, J_neg, J_lt, J_le, J_eq, gArr_J, gAst_J, gSiz_J, gFld_o, gUpd_o0, gUpd_o1, gUpd_o2, gUpd_o3, gUpd_o4, gUpd_o5, gUpd_o6, gUpd_o7, gUpd_o8, gUpd_o9, gUpd_o10, gUpd_o11, gUpd_o12, gUpd_o13, gUpd_o14, gUpd_o15, gUpd_o16, gUpd_o17, gUpd_o18, gIsO_o, Option.bind_some, List.getElem?_cons_zero, List.getElem?_cons_succ, List.length_cons, List.length_nil, List.set_cons_zero, List.set_cons_succ, gCat_nil, gCat_int, gCat_ref, if_pos, if_neg, Option.toList_some, Option.toList_none, List.cons_append, List.nil_append, B_nar, J1_nar, J0_nar, if_true, if_false, rd_wr_same, rd_wr_ne, true_and, and_true, B_0, B_1, not_true_eq_false, not_false_eq_true, rdM0, rdM1, rdM2, rdM3, rdM4, rdM5, rdM6, rdM7, rdM8, rdM9, rdM10, rdM11, rdM12, rset_at, rset_ne, rset_rset, w0M, wZ1, wZ2, wZ3, wZ4, wZ5, wZ6, wZ7, wZ8, wZ9, wZ10, wZ11, wZ12, f7_0, f7_1, f7_2, f7_3, f7_4, f7_5, f7_6, c1, q0]
  · rw [B_neg q1] at c1
    rw [if_neg q1, if_neg (fun z => q1 z.1)]
    refine ⟨M, ?_, hI⟩
    simp (disch := first | omega | exact Nat.le_of_ble_eq_true rfl) only [e125_0, e125_1, e125_3, e125_5, e125_8, e125_11, e125_12, e125_13, e125_14, e125_17, e125_20, e125_23, e125_25, e125_26, e125_27, e125_30, e125_31, e125_34, e125_35, e125_36, e125_37, e125_37i, e125_38, e125_41, e125_42, e125_43, e125_46, e125_47, e125_50, J_add, J_sub, J_mul, J_neg, J_lt, J_le, J_eq, gArr_J, gAst_J, gSiz_J, gFld_o, gUpd_o0, gUpd_o1, gUpd_o2, gUpd_o3, gUpd_o4, gUpd_o5, gUpd_o6, gUpd_o7, gUpd_o8, gUpd_o9, gUpd_o10, gUpd_o11, gUpd_o12, gUpd_o13, gUpd_o14, gUpd_o15, gUpd_o16, gUpd_o17, gUpd_o18, gIsO_o, Option.bind_some, List.getElem?_cons_zero, List.getElem?_cons_succ, List.length_cons, List.length_nil, List.set_cons_zero, List.set_cons_succ, gCat_nil, gCat_int, gCat_ref, if_pos, if_neg, Option.toList_some, Option.toList_none, List.cons_append, List.nil_append, B_nar, J1_nar, J0_nar, if_true, if_false, rd_wr_same, rd_wr_ne, true_and, and_true, B_0, B_1, not_true_eq_false, not_false_eq_true, rdM0, rdM1, rdM2, rdM3, rdM4, rdM5, rdM6, rdM7, rdM8, rdM9, rdM10, rdM11, rdM12, rset_at, rset_ne, rset_rset, w0M, wZ1, wZ2, wZ3, wZ4, wZ5, wZ6, wZ7, wZ8, wZ9, wZ10, wZ11, wZ12, f7_0, f7_1, f7_2, f7_3, f7_4, f7_5, f7_6, c1]

theorem z126 {nat : gNat} {d : Nat} {w : gWd} {x : Nat} {t : Int} {X K S : Lay} {PT KT : Nat → Lay} {M : Lay} (hx : x + 12 < gSTR) (hI : stI t X K S PT KT M) (ht : t ≤ 1000) : ∃ M', gC nat (d + 4) 126 [.ref x] (putM w x M) = some (some (.int (J (X 0 0))), putM w x M') ∧ stI t (sset X 0 0 0) K S PT KT M' := by
  obtain ⟨iR, hK, ⟨k1p, k2p⟩, ⟨hS, hH⟩, iP, iKp, iE, iT, hL, hR, ⟨m0, m3, m4, m5, m6⟩⟩ := id hI
  obtain ⟨r0, r1, r2, r3, r4, r5⟩ := id iR
  rw [en126]
  refine ⟨rset M 0 (f7 0 (M 0 1) (M 0 2) (M 0 3) (M 0 4) (M 0 5) (M 0 6)), ?_, ?_⟩
  · rw [← m0]
    simp (disch := first | omega | exact Nat.le_of_ble_eq_true rfl) only [e126_0, e126_1, e126_4, e126_5, e126_6, e126_7, e126_10, e126_11, J_add, J_sub, J_mul, J_neg, J_lt, J_le, J_eq, gArr_J, gAst_J, gSiz_J, gFld_o, gUpd_o0, gUpd_o1, gUpd_o2, gUpd_o3, gUpd_o4, gUpd_o5, gUpd_o6, gUpd_o7, gUpd_o8, gUpd_o9, gUpd_o10, gUpd_o11, gUpd_o12, gUpd_o13, gUpd_o14, gUpd_o15, gUpd_o16, gUpd_o17, gUpd_o18, gIsO_o, Option.bind_some, List.getElem?_cons_zero, List.getElem?_cons_succ, List.length_cons, List.length_nil, List.set_cons_zero, List.set_cons_succ, gCat_nil, gCat_int, gCat_ref, if_pos, if_neg, Option.toList_some, Option.toList_none, List.cons_append, List.nil_append, B_nar, J1_nar, J0_nar, if_true, if_false, rd_wr_same, rd_wr_ne, true_and, and_true, B_0, B_1, not_true_eq_false, not_false_eq_true, rdM0, rdM1, rdM2, rdM3, rdM4, rdM5, rdM6, rdM7, rdM8, rdM9, rdM10, rdM11, rdM12, rset_at, rset_ne, rset_rset, w0M, wZ1, wZ2, wZ3, wZ4, wZ5, wZ6, wZ7, wZ8, wZ9, wZ10, wZ11, wZ12, f7_0, f7_1, f7_2, f7_3, f7_4, f7_5, f7_6]
  · refine ⟨⟨by rw [sset_at]; omega, fun i i1 i2 => by rw [sset_row (by decide)]; exact r1 i i1 i2, by rw [sx _ _ _ _ (by decide)]; exact r2, by rw [sx _ _ _ _ (by decide)]; exact r3, by rw [sx _ _ _ _ (by decide)]; exact r4, by rw [sx _ _ _ _ (by decide)]; omega⟩, hK, ⟨k1p, k2p⟩, ⟨hS, hH⟩, ?_, ?_, ?_, ?_, ?_, ?_, ?_⟩
    · unfold pI
      rw [sx _ _ _ _ (by decide), sx _ _ _ _ (by decide), rset_at, f7_4, rset_ne (by decide)]
      exact iP
    · unfold kI
      rw [sx _ _ _ _ (by decide), rset_ne (by decide)]
      exact iKp
    · unfold sI
      rw [sx _ _ _ _ (by decide), sset_row (by decide), sset_row (by decide), sset_row (by decide), rset_ne (by decide), rset_ne (by decide), rset_ne (by decide)]
      exact iE
    · intro i i1 i2
      rw [sset_at] at i2
      omega
    · rw [rset_ne (by decide)]
      exact hL
    · rw [rset_ne (by decide)]
      exact hR
    · rw [rset_at, f7_0, f7_3, f7_4, f7_5, f7_6, sset_at, sx _ _ _ _ (by decide), sx _ _ _ _ (by decide), sx _ _ _ _ (by decide)]
      exact ⟨rfl, m3, m4, m5, m6⟩

theorem z178 {nat : gNat} {d : Nat} {w : gWd} {x : Nat} {t : Int} {X K S : Lay} {PT KT : Nat → Lay} {M : Lay} (hx : x + 12 < gSTR) (hI : stI t X K S PT KT M) (ht : t ≤ 1000) : ∃ M', gC nat (d + 4) 178 [.ref x] (putM w x M) = some (some (.int (J (X 0 4))), putM w x M') ∧ stI t (sset X 0 4 0) K S PT KT M' := by
  obtain ⟨iR, hK, ⟨k1p, k2p⟩, ⟨hS, hH⟩, iP, iKp, iE, iT, hL, hR, ⟨m0, m3, m4, m5, m6⟩⟩ := id hI
  obtain ⟨r0, r1, r2, r3, r4, r5⟩ := id iR
  rw [en178]
  refine ⟨rset M 0 (f7 (M 0 0) (M 0 1) (M 0 2) (M 0 3) (M 0 4) 0 (M 0 6)), ?_, ?_⟩
  · rw [← m5]
    simp (disch := first | omega | exact Nat.le_of_ble_eq_true rfl) only [e178_0, e178_1, e178_4, e178_5, e178_6, e178_7, e178_10, e178_11, J_add, J_sub, J_mul, J_neg, J_lt, J_le, J_eq, gArr_J, gAst_J, gSiz_J, gFld_o, gUpd_o0, gUpd_o1, gUpd_o2, gUpd_o3, gUpd_o4, gUpd_o5, gUpd_o6, gUpd_o7, gUpd_o8, gUpd_o9, gUpd_o10, gUpd_o11, gUpd_o12, gUpd_o13, gUpd_o14, gUpd_o15, gUpd_o16, gUpd_o17, gUpd_o18, gIsO_o, Option.bind_some, List.getElem?_cons_zero, List.getElem?_cons_succ, List.length_cons, List.length_nil, List.set_cons_zero, List.set_cons_succ, gCat_nil, gCat_int, gCat_ref, if_pos, if_neg, Option.toList_some, Option.toList_none, List.cons_append, List.nil_append, B_nar, J1_nar, J0_nar, if_true, if_false, rd_wr_same, rd_wr_ne, true_and, and_true, B_0, B_1, not_true_eq_false, not_false_eq_true, rdM0, rdM1, rdM2, rdM3, rdM4, rdM5, rdM6, rdM7, rdM8, rdM9, rdM10, rdM11, rdM12, rset_at, rset_ne, rset_rset, w0M, wZ1, wZ2, wZ3, wZ4, wZ5, wZ6, wZ7, wZ8, wZ9, wZ10, wZ11, wZ12, f7_0, f7_1, f7_2, f7_3, f7_4, f7_5, f7_6]
  · refine ⟨⟨by rw [sx _ _ _ _ (by decide)]; omega, fun i i1 i2 => by rw [sset_row (by decide)]; exact r1 i i1 i2, by rw [sx _ _ _ _ (by decide)]; exact r2, by rw [sx _ _ _ _ (by decide)]; exact r3, by rw [sx _ _ _ _ (by decide)]; exact r4, by rw [sset_at]; omega⟩, hK, ⟨k1p, k2p⟩, ⟨hS, hH⟩, ?_, ?_, ?_, ?_, ?_, ?_, ?_⟩
    · unfold pI
      rw [sx _ _ _ _ (by decide), sx _ _ _ _ (by decide), rset_at, f7_4, rset_ne (by decide)]
      exact iP
    · unfold kI
      rw [sx _ _ _ _ (by decide), rset_ne (by decide)]
      exact iKp
    · intro i i1 i2
      rw [sset_at] at i2
      omega
    · unfold tI
      rw [sx _ _ _ _ (by decide), sset_row (by decide), rset_ne (by decide)]
      exact iT
    · rw [rset_ne (by decide)]
      exact hL
    · rw [rset_ne (by decide)]
      exact hR
    · rw [rset_at, f7_0, f7_3, f7_4, f7_5, f7_6, sset_at, sx _ _ _ _ (by decide), sx _ _ _ _ (by decide), sx _ _ _ _ (by decide)]
      exact ⟨m0, m3, m4, rfl, m6⟩

theorem z177 {nat : gNat} {d : Nat} {w : gWd} {x : Nat} {t : Int} {X K S : Lay} {PT KT : Nat → Lay} {M : Lay} (hx : x + 12 < gSTR) (hI : stI t X K S PT KT M) (ht : t ≤ 1000) {a b u : Int} (h_a : -2147483648 ≤ a ∧ a < 2147483648) (h_b : -2147483648 ≤ b ∧ b < 2147483648) (h_u : -2147483648 ≤ u ∧ u < 2147483648) : ∃ M', gC nat (d + 5) 177 [.ref x, .int (J a), .int (J b), .int (J u)] (putM w x M) = some (some (.int (J (aSee X K a b u))), putM w x M') ∧ stI t (if seeC X K a b u then seeX X a b u else X) K S PT KT M' := by
  obtain ⟨iR, hK, ⟨k1p, k2p⟩, ⟨hS, hH⟩, iP, iKp, iE, iT, hL, hR, ⟨m0, m3, m4, m5, m6⟩⟩ := id hI
  obtain ⟨k0, k1, k2, k3, k4, kg, kd, kr⟩ := id hK
  obtain ⟨f0, f1, f2, f3, f4, fr, fg, fd⟩ := id hL
  obtain ⟨r0, r1, r2, r3, r4, r5⟩ := id iR
  have c1 := s140 (nat := nat) (d := d + 2) (w := w) hx hL hK h_a
  have c2 := s140 (nat := nat) (d := d + 2) (w := w) hx hL hK h_b
  have c3 := s122 (nat := nat) (d := d + 3) (w := (putM w x M)) (v := u) (l := 0) (h := 1) (by omega) (by omega) (by omega)
  rw [en177]
  unfold aSee
  by_cases q : seeI K a b u
  · obtain ⟨q1, q2, q3, q4⟩ := id q
    rw [B_pos q1] at c1
    rw [B_pos q2] at c2
    rw [B_pos q4] at c3
    rw [if_pos q]
    by_cases q5 : 8 ≤ X 0 4
    · have hC : ¬ seeC X K a b u := fun z => by have := z.2; omega
      rw [if_pos q5, if_neg hC]
      refine ⟨M, ?_, hI⟩
      have q0 : M 0 5 = 8 := by omega
      simp (disch := first | omega | exact Nat.le_of_ble_eq_true rfl) only [e177_0, e177_1, e177_2, e177_5, e177_8, e177_9, e177_10, e177_13, e177_16, e177_17, e177_18, e177_21, e177_22, e177_23, e177_24, e177_27, e177_30, e177_31, e177_32, e177_33, e177_36, e177_38, e177_41, e177_43, e177_44, e177_45, e177_48, e177_49, e177_52, e177_53, e177_54, e177_55, e177_58, e177_59, e177_62, e177_63, e177_64, e177_65, e177_68, e177_69, e177_72, e177_73, e177_74, e177_75, e177_75i, e177_76, e177_79, e177_80, e177_81, e177_84, e177_85, e177_88, J_add, J_sub, J_mul, J_neg, J_lt, J_le, J_eq, gArr_J, gAst_J, gSiz_J, gFld_o, gUpd_o0, gUpd_o1, gUpd_o2, gUpd_o3, gUpd_o4, gUpd_o5, gUpd_o6, gUpd_o7, gUpd_o8, gUpd_o9, gUpd_o10, gUpd_o11, gUpd_o12, gUpd_o13, gUpd_o14, gUpd_o15, gUpd_o16, gUpd_o17, gUpd_o18, gIsO_o, Option.bind_some, List.getElem?_cons_zero, List.getElem?_cons_succ, List.length_cons, List.length_nil, List.set_cons_zero, List.set_cons_succ, gCat_nil, gCat_int, gCat_ref, if_pos, if_neg, Option.toList_some, Option.toList_none, List.cons_append, List.nil_append, B_nar, J1_nar, J0_nar, if_true, if_false, rd_wr_same, rd_wr_ne, true_and, and_true, B_0, B_1, not_true_eq_false, not_false_eq_true, rdM0, rdM1, rdM2, rdM3, rdM4, rdM5, rdM6, rdM7, rdM8, rdM9, rdM10, rdM11, rdM12, rset_at, rset_ne, rset_rset, w0M, wZ1, wZ2, wZ3, wZ4, wZ5, wZ6, wZ7, wZ8, wZ9, wZ10, wZ11, wZ12, f7_0, f7_1, f7_2, f7_3, f7_4, f7_5, f7_6, c1, c2, c3, q0]
    · have hC : seeC X K a b u := ⟨q, by omega⟩
      rw [if_neg q5, if_pos hC]
      unfold seeX
      refine ⟨rset (rset (rset (rset M 9 (fset (M 9) (M 0 5) a)) 10 (fset (M 10) (M 0 5) b)) 11 (fset (M 11) (M 0 5) u)) 0 (f7 (M 0 0) (M 0 1) (M 0 2) (M 0 3) (M 0 4) (M 0 5 + 1) (M 0 6)), ?_, ?_⟩
      · rw [← m5]
        simp (disch := first | omega | exact Nat.le_of_ble_eq_true rfl) only [e177_0, e177_1, e177_2, e177_5, e177_8, e177_9, e177_10, e177_13, e177_16, e177_17, e177_18, e177_21, e177_22, e177_23, e177_24, e177_27, e177_30, e177_31, e177_32, e177_33, e177_36, e177_38, e177_41, e177_43, e177_44, e177_45, e177_48, e177_49, e177_52, e177_53, e177_54, e177_55, e177_58, e177_59, e177_62, e177_63, e177_64, e177_65, e177_68, e177_69, e177_72, e177_73, e177_74, e177_75, e177_75i, e177_76, e177_79, e177_80, e177_81, e177_84, e177_85, e177_88, J_add, J_sub, J_mul, J_neg, J_lt, J_le, J_eq, gArr_J, gAst_J, gSiz_J, gFld_o, gUpd_o0, gUpd_o1, gUpd_o2, gUpd_o3, gUpd_o4, gUpd_o5, gUpd_o6, gUpd_o7, gUpd_o8, gUpd_o9, gUpd_o10, gUpd_o11, gUpd_o12, gUpd_o13, gUpd_o14, gUpd_o15, gUpd_o16, gUpd_o17, gUpd_o18, gIsO_o, Option.bind_some, List.getElem?_cons_zero, List.getElem?_cons_succ, List.length_cons, List.length_nil, List.set_cons_zero, List.set_cons_succ, gCat_nil, gCat_int, gCat_ref, if_pos, if_neg, Option.toList_some, Option.toList_none, List.cons_append, List.nil_append, B_nar, J1_nar, J0_nar, if_true, if_false, rd_wr_same, rd_wr_ne, true_and, and_true, B_0, B_1, not_true_eq_false, not_false_eq_true, rdM0, rdM1, rdM2, rdM3, rdM4, rdM5, rdM6, rdM7, rdM8, rdM9, rdM10, rdM11, rdM12, rset_at, rset_ne, rset_rset, w0M, wZ1, wZ2, wZ3, wZ4, wZ5, wZ6, wZ7, wZ8, wZ9, wZ10, wZ11, wZ12, f7_0, f7_1, f7_2, f7_3, f7_4, f7_5, f7_6, c1, c2, c3]
      · have ex : ∀ j : Int, j ≠ 4 → (sset (sset (sset (sset X 2 (X 0 4) a) 3 (X 0 4) b) 4 (X 0 4) u) 0 4 (X 0 4 + 1)) 0 j = X 0 j := by
          intro j hj
          rw [sx _ _ _ _ hj, sset_row (by decide), sset_row (by decide), sset_row (by decide)]
        have er : ∀ k : Int, k ≠ 0 → k ≠ 2 → k ≠ 3 → k ≠ 4 → (sset (sset (sset (sset X 2 (X 0 4) a) 3 (X 0 4) b) 4 (X 0 4) u) 0 4 (X 0 4 + 1)) k = X k := by
          intro k h0 h2 h3 h4
          rw [sset_row h0, sset_row h4, sset_row h3, sset_row h2]
        have e2 : (sset (sset (sset (sset X 2 (X 0 4) a) 3 (X 0 4) b) 4 (X 0 4) u) 0 4 (X 0 4 + 1)) 2 = fset (X 2) (X 0 4) a := by
          rw [sset_row (by decide), sset_row (by decide), sset_row (by decide), sset_fset]
        have e3 : (sset (sset (sset (sset X 2 (X 0 4) a) 3 (X 0 4) b) 4 (X 0 4) u) 0 4 (X 0 4 + 1)) 3 = fset (X 3) (X 0 4) b := by
          rw [sset_row (by decide), sset_row (by decide), sset_fset, sset_row (by decide)]
        have e4 : (sset (sset (sset (sset X 2 (X 0 4) a) 3 (X 0 4) b) 4 (X 0 4) u) 0 4 (X 0 4 + 1)) 4 = fset (X 4) (X 0 4) u := by
          rw [sset_row (by decide), sset_fset, sset_row (by decide), sset_row (by decide)]
        refine ⟨⟨by rw [ex _ (by decide)]; exact r0, fun i i1 i2 => by rw [er _ (by decide) (by decide) (by decide) (by decide)]; exact r1 i i1 i2, by rw [ex _ (by decide)]; exact r2, by rw [ex _ (by decide)]; exact r3, by rw [ex _ (by decide)]; exact r4, by rw [sset_at]; omega⟩, hK, ⟨k1p, k2p⟩, ⟨hS, hH⟩, ?_, ?_, ?_, ?_, ?_, ?_, ?_⟩
        · unfold pI
          rw [ex _ (by decide), ex _ (by decide), rset_at, f7_4, rset_ne (by decide), rset_ne (by decide), rset_ne (by decide), rset_ne (by decide)]
          exact iP
        · unfold kI
          rw [ex _ (by decide), rset_ne (by decide), rset_ne (by decide), rset_ne (by decide), rset_ne (by decide)]
          exact iKp
        · intro i i1 i2
          rw [sset_at] at i2
          rw [e2, e3, e4, rset_ne (show (9 : Int) ≠ 0 by decide), rset_ne (show (9 : Int) ≠ 11 by decide), rset_ne (show (9 : Int) ≠ 10 by decide), rset_at, rset_ne (show (10 : Int) ≠ 0 by decide), rset_ne (show (10 : Int) ≠ 11 by decide), rset_at, rset_ne (show (11 : Int) ≠ 0 by decide), rset_at, m5]
          by_cases z : i = X 0 4
          · rw [z, fset_at, fset_at, fset_at, fset_at, fset_at, fset_at]
            exact ⟨by omega, by omega, by omega, q3, rfl, rfl, rfl⟩
          · rw [fset_ne z, fset_ne z, fset_ne z, fset_ne z, fset_ne z, fset_ne z]
            exact iE i i1 (by omega)
        · unfold tI
          rw [ex _ (by decide), er _ (by decide) (by decide) (by decide) (by decide), rset_ne (by decide), rset_ne (by decide), rset_ne (by decide), rset_ne (by decide)]
          exact iT
        · rw [rset_ne (by decide), rset_ne (by decide), rset_ne (by decide), rset_ne (by decide)]
          exact hL
        · rw [rset_ne (by decide), rset_ne (by decide), rset_ne (by decide), rset_ne (by decide)]
          exact hR
        · rw [rset_at, f7_0, f7_3, f7_4, f7_5, f7_6, sset_at, ex _ (by decide), ex _ (by decide), ex _ (by decide), m5]
          exact ⟨m0, m3, m4, rfl, m6⟩
  · have hC : ¬ seeC X K a b u := fun z => q z.1
    rw [if_neg q, if_neg hC]
    refine ⟨M, ?_, hI⟩
    by_cases q1 : 0 ≤ a ∧ a ≤ K 0 0 - 1
    · rw [B_pos q1] at c1
      by_cases q2 : 0 ≤ b ∧ b ≤ K 0 0 - 1
      · rw [B_pos q2] at c2
        by_cases q3 : a = b
        · subst q3
          simp (disch := first | omega | exact Nat.le_of_ble_eq_true rfl) only [e177_0, e177_1, e177_2, e177_5, e177_8, e177_9, e177_10, e177_13, e177_16, e177_17, e177_18, e177_21, e177_22, e177_23, e177_24, e177_27, e177_30, e177_31, e177_32, e177_33, e177_36, e177_38, e177_41, e177_43, e177_44, e177_45, e177_48, e177_49, e177_52, e177_53, e177_54, e177_55, e177_58, e177_59, e177_62, e177_63, e177_64, e177_65, e177_68, e177_69, e177_72, e177_73, e177_74, e177_75, e177_75i, e177_76, e177_79, e177_80, e177_81, e177_84, e177_85, e177_88, J_add, J_sub, J_mul, J_neg, J_lt, J_le, J_eq, gArr_J, gAst_J, gSiz_J, gFld_o, gUpd_o0, gUpd_o1, gUpd_o2, gUpd_o3, gUpd_o4, gUpd_o5, gUpd_o6, gUpd_o7, gUpd_o8, gUpd_o9, gUpd_o10, gUpd_o11, gUpd_o12, gUpd_o13, gUpd_o14, gUpd_o15, gUpd_o16, gUpd_o17, gUpd_o18, gIsO_o, Option.bind_some, List.getElem?_cons_zero, List.getElem?_cons_succ, List.length_cons, List.length_nil, List.set_cons_zero, List.set_cons_succ, gCat_nil, gCat_int, gCat_ref, if_pos, if_neg, Option.toList_some, Option.toList_none, List.cons_append, List.nil_append, B_nar, J1_nar, J0_nar, if_true, if_false, rd_wr_same, rd_wr_ne, true_and, and_true, B_0, B_1, not_true_eq_false, not_false_eq_true, rdM0, rdM1, rdM2, rdM3, rdM4, rdM5, rdM6, rdM7, rdM8, rdM9, rdM10, rdM11, rdM12, rset_at, rset_ne, rset_rset, w0M, wZ1, wZ2, wZ3, wZ4, wZ5, wZ6, wZ7, wZ8, wZ9, wZ10, wZ11, wZ12, f7_0, f7_1, f7_2, f7_3, f7_4, f7_5, f7_6, c1, c2, c3]
        · have q4 : ¬ (0 ≤ u ∧ u ≤ 1) := fun z => q ⟨q1, q2, q3, z⟩
          rw [B_neg q4] at c3
          simp (disch := first | omega | exact Nat.le_of_ble_eq_true rfl) only [e177_0, e177_1, e177_2, e177_5, e177_8, e177_9, e177_10, e177_13, e177_16, e177_17, e177_18, e177_21, e177_22, e177_23, e177_24, e177_27, e177_30, e177_31, e177_32, e177_33, e177_36, e177_38, e177_41, e177_43, e177_44, e177_45, e177_48, e177_49, e177_52, e177_53, e177_54, e177_55, e177_58, e177_59, e177_62, e177_63, e177_64, e177_65, e177_68, e177_69, e177_72, e177_73, e177_74, e177_75, e177_75i, e177_76, e177_79, e177_80, e177_81, e177_84, e177_85, e177_88, J_add, J_sub, J_mul, J_neg, J_lt, J_le, J_eq, gArr_J, gAst_J, gSiz_J, gFld_o, gUpd_o0, gUpd_o1, gUpd_o2, gUpd_o3, gUpd_o4, gUpd_o5, gUpd_o6, gUpd_o7, gUpd_o8, gUpd_o9, gUpd_o10, gUpd_o11, gUpd_o12, gUpd_o13, gUpd_o14, gUpd_o15, gUpd_o16, gUpd_o17, gUpd_o18, gIsO_o, Option.bind_some, List.getElem?_cons_zero, List.getElem?_cons_succ, List.length_cons, List.length_nil, List.set_cons_zero, List.set_cons_succ, gCat_nil, gCat_int, gCat_ref, if_pos, if_neg, Option.toList_some, Option.toList_none, List.cons_append, List.nil_append, B_nar, J1_nar, J0_nar, if_true, if_false, rd_wr_same, rd_wr_ne, true_and, and_true, B_0, B_1, not_true_eq_false, not_false_eq_true, rdM0, rdM1, rdM2, rdM3, rdM4, rdM5, rdM6, rdM7, rdM8, rdM9, rdM10, rdM11, rdM12, rset_at, rset_ne, rset_rset, w0M, wZ1, wZ2, wZ3, wZ4, wZ5, wZ6, wZ7, wZ8, wZ9, wZ10, wZ11, wZ12, f7_0, f7_1, f7_2, f7_3, f7_4, f7_5, f7_6, c1, c2, c3]
      · rw [B_neg q2] at c2
        simp (disch := first | omega | exact Nat.le_of_ble_eq_true rfl) only [e177_0, e177_1, e177_2, e177_5, e177_8, e177_9, e177_10, e177_13, e177_16, e177_17, e177_18, e177_21, e177_22, e177_23, e177_24, e177_27, e177_30, e177_31, e177_32, e177_33, e177_36, e177_38, e177_41, e177_43, e177_44, e177_45, e177_48, e177_49, e177_52, e177_53, e177_54, e177_55, e177_58, e177_59, e177_62, e177_63, e177_64, e177_65, e177_68, e177_69, e177_72, e177_73, e177_74, e177_75, e177_75i, e177_76, e177_79, e177_80, e177_81, e177_84, e177_85, e177_88, J_add, J_sub, J_mul, J_neg, J_lt, J_le, J_eq, gArr_J, gAst_J, gSiz_J, gFld_o, gUpd_o0, gUpd_o1, gUpd_o2, gUpd_o3, gUpd_o4, gUpd_o5, gUpd_o6, gUpd_o7, gUpd_o8, gUpd_o9, gUpd_o10, gUpd_o11, gUpd_o12, gUpd_o13, gUpd_o14, gUpd_o15, gUpd_o16, gUpd_o17, gUpd_o18, gIsO_o, Option.bind_some, List.getElem?_cons_zero, List.getElem?_cons_succ, List.length_cons, List.length_nil, List.set_cons_zero, List.set_cons_succ, gCat_nil, gCat_int, gCat_ref, if_pos, if_neg, Option.toList_some, Option.toList_none, List.cons_append, List.nil_append, B_nar, J1_nar, J0_nar, if_true, if_false, rd_wr_same, rd_wr_ne, true_and, and_true, B_0, B_1, not_true_eq_false, not_false_eq_true, rdM0, rdM1, rdM2, rdM3, rdM4, rdM5, rdM6, rdM7, rdM8, rdM9, rdM10, rdM11, rdM12, rset_at, rset_ne, rset_rset, w0M, wZ1, wZ2, wZ3, wZ4, wZ5, wZ6, wZ7, wZ8, wZ9, wZ10, wZ11, wZ12, f7_0, f7_1, f7_2, f7_3, f7_4, f7_5, f7_6, c1, c2]
    · rw [B_neg q1] at c1
      simp (disch := first | omega | exact Nat.le_of_ble_eq_true rfl) only [e177_0, e177_1, e177_2, e177_5, e177_8, e177_9, e177_10, e177_13, e177_16, e177_17, e177_18, e177_21, e177_22, e177_23, e177_24, e177_27, e177_30, e177_31, e177_32, e177_33, e177_36, e177_38, e177_41, e177_43, e177_44, e177_45, e177_48, e177_49, e177_52, e177_53, e177_54, e177_55, e177_58, e177_59, e177_62, e177_63, e177_64, e177_65, e177_68, e177_69, e177_72, e177_73, e177_74, e177_75, e177_75i, e177_76, e177_79, e177_80, e177_81, e177_84, e177_85, e177_88, J_add, J_sub, J_mul, J_neg, J_lt, J_le, J_eq, gArr_J, gAst_J, gSiz_J, gFld_o, gUpd_o0, gUpd_o1, gUpd_o2, gUpd_o3, gUpd_o4, gUpd_o5, gUpd_o6, gUpd_o7, gUpd_o8, gUpd_o9, gUpd_o10, gUpd_o11, gUpd_o12, gUpd_o13, gUpd_o14, gUpd_o15, gUpd_o16, gUpd_o17, gUpd_o18, gIsO_o, Option.bind_some, List.getElem?_cons_zero, List.getElem?_cons_succ, List.length_cons, List.length_nil, List.set_cons_zero, List.set_cons_succ, gCat_nil, gCat_int, gCat_ref, if_pos, if_neg, Option.toList_some, Option.toList_none, List.cons_append, List.nil_append, B_nar, J1_nar, J0_nar, if_true, if_false, rd_wr_same, rd_wr_ne, true_and, and_true, B_0, B_1, not_true_eq_false, not_false_eq_true, rdM0, rdM1, rdM2, rdM3, rdM4, rdM5, rdM6, rdM7, rdM8, rdM9, rdM10, rdM11, rdM12, rset_at, rset_ne, rset_rset, w0M, wZ1, wZ2, wZ3, wZ4, wZ5, wZ6, wZ7, wZ8, wZ9, wZ10, wZ11, wZ12, f7_0, f7_1, f7_2, f7_3, f7_4, f7_5, f7_6, c1]
