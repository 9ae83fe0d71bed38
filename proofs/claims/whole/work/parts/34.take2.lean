theorem e28_18d {cal : Nat → List Value → gWd → Option gRes} {nat : gNat} {l0 l1 l2 : Option Value} {st : List Value} {w : gWd} {x : Int} (hx : -2147483648 ≤ x ∧ x < 2147483648) (h1 : ¬ x = 100) (h2 : ¬ x = 103) (h3 : ¬ x = 108) (h4 : ¬ x = 114) : gX cal nat 28 18 [l0, l1, l2] [] (.int (J x) :: st) w = gX cal nat 28 84 [l0, l1, l2] [] st w := xSe gc28 dX3_takeItem_18 rfl (by
    unfold gSw
    dsimp only
    rw [if_pos (by decide +kernel), J_toInt hx]
    simp [Op.lookupswitch.offset, Ne.symm h1, Ne.symm h2, Ne.symm h3, Ne.symm h4, h1, h2, h3, h4, gTgt])
theorem e135_36d {cal : Nat → List Value → gWd → Option gRes} {nat : gNat} {l0 l1 : Option Value} {st : List Value} {w : gWd} {x : Int} (hx : -2147483648 ≤ x ∧ x < 2147483648) (h1 : ¬ x = 100) (h2 : ¬ x = 103) (h3 : ¬ x = 108) (h4 : ¬ x = 114) : gX cal nat 135 36 [l0, l1] [] (.int (J x) :: st) w = gX cal nat 135 100 [l0, l1] [] st w := xSe gc135 dX9_readsItem_36 rfl (by
    unfold gSw
    dsimp only
    rw [if_pos (by decide +kernel), J_toInt hx]
    simp [Op.lookupswitch.offset, Ne.symm h1, Ne.symm h2, Ne.symm h3, Ne.symm h4, h1, h2, h3, h4, gTgt])

theorem s28 {nat : gNat} {d : Nat} {w : gWd} {x m : Nat} {a on : Int} {N : Int → Int} {K : Lay} (hx : x + 1 < gSTR) (hm : m + 3 < gSTR) (hd : x + 1 < m ∨ m + 3 < x) (ha : 1 ≤ a ∧ a ≤ 5) (hN : ∀ y, 0 ≤ y → y < a → 0 ≤ N y ∧ N y ≤ 99) (hK : (0 ≤ K 0 0 ∧ K 0 0 ≤ 8) ∧ (0 ≤ K 0 1 ∧ K 0 1 ≤ 8) ∧ (0 ≤ K 0 2 ∧ K 0 2 ≤ 4) ∧ (0 ≤ K 0 4 ∧ K 0 4 ≤ 12)) (hon : on = 0 ∨ on = 1) {c : Int} (h_c : -2147483648 ≤ c ∧ c < 2147483648) : gC nat (d + 4) 28 [.ref x, .int (J c), .ref m] (putR (putK w m K) x a on N) = some (some (.int (J (if (tki c a N K on).isSome then 1 else 0))), putR (putK w m ((tki c a N K on).getD K)) x a (if c = 112 then on else 0) N) := by
  rw [en28]
  have w0 : ∀ on', wr (putR (putK w m K) x a on N) x (oC 3 [.ref (x + 1), .int (J a), .int (J on')]) = putR (putK w m K) x a on' N := fun on' => wR0
  by_cases h112 : c = 112
  · subst h112
    unfold tki
    rw [if_pos (show (112 : Int) = 112 from rfl)]
    have cc := s29 (nat := nat) (d := d) (w := w) (x := x) (m := m) (a := a) (on := on) (N := N) (K := K) hx hm hd ha hN hK hon
    split at cc
    · rename_i hq
      rw [if_pos hq]
      simp (disch := first | omega | exact Nat.le_of_ble_eq_true rfl | decide) only [e28_0, e28_1, e28_3, e28_6, e28_7, e28_8, e28_11, e28_12, e28_13, e28_14z0, e28_14z1, e28_17, e28_18s100, e28_18s103, e28_18s108, e28_18s114, e28_60, e28_61, e28_62, e28_65, e28_66, e28_67, e28_68, e28_71, e28_72, e28_73, e28_74, e28_77, e28_78, e28_79, e28_80, e28_83, e28_84, e28_85, J_add, J_sub, J_mul, J_neg, J_lt, J_le, J_eq, gArr_J, gAst_J, gSiz_J, gFld_o, gUpd_o0, gUpd_o1, gUpd_o2, gUpd_o3, gUpd_o4, gUpd_o5, gUpd_o6, gUpd_o7, gUpd_o8, gUpd_o9, gUpd_o10, gUpd_o11, gUpd_o12, gUpd_o13, gUpd_o14, gUpd_o15, gUpd_o16, gUpd_o17, gUpd_o18, gIsO_o, Option.bind_some, List.getElem?_cons_zero, List.getElem?_cons_succ, List.length_cons, List.length_nil, List.set_cons_zero, List.set_cons_succ, gCat_nil, gCat_int, gCat_ref, if_pos, if_neg, Option.toList_some, Option.toList_none, List.cons_append, List.nil_append, B_nar, J1_nar, J0_nar, if_true, if_false, rd_wr_same, rd_wr_ne, true_and, and_true, B_0, B_1, not_true_eq_false, not_false_eq_true, rdR0, rdR1, w0, cc, Option.isSome_some, Option.getD_some, B_pos, B_neg]
    · rename_i hq
      rw [if_neg hq]
      simp (disch := first | omega | exact Nat.le_of_ble_eq_true rfl | decide) only [e28_0, e28_1, e28_3, e28_6, e28_7, e28_8, e28_11, e28_12, e28_13, e28_14z0, e28_14z1, e28_17, e28_18s100, e28_18s103, e28_18s108, e28_18s114, e28_60, e28_61, e28_62, e28_65, e28_66, e28_67, e28_68, e28_71, e28_72, e28_73, e28_74, e28_77, e28_78, e28_79, e28_80, e28_83, e28_84, e28_85, J_add, J_sub, J_mul, J_neg, J_lt, J_le, J_eq, gArr_J, gAst_J, gSiz_J, gFld_o, gUpd_o0, gUpd_o1, gUpd_o2, gUpd_o3, gUpd_o4, gUpd_o5, gUpd_o6, gUpd_o7, gUpd_o8, gUpd_o9, gUpd_o10, gUpd_o11, gUpd_o12, gUpd_o13, gUpd_o14, gUpd_o15, gUpd_o16, gUpd_o17, gUpd_o18, gIsO_o, Option.bind_some, List.getElem?_cons_zero, List.getElem?_cons_succ, List.length_cons, List.length_nil, List.set_cons_zero, List.set_cons_succ, gCat_nil, gCat_int, gCat_ref, if_pos, if_neg, Option.toList_some, Option.toList_none, List.cons_append, List.nil_append, B_nar, J1_nar, J0_nar, if_true, if_false, rd_wr_same, rd_wr_ne, true_and, and_true, B_0, B_1, not_true_eq_false, not_false_eq_true, rdR0, rdR1, w0, cc, Option.isSome_none, Option.getD_none, B_pos, B_neg]
  by_cases h103 : c = 103
  · subst h103
    unfold tki
    rw [if_neg (show ¬ (103 : Int) = 112 by decide)]
    rw [if_pos (show (103 : Int) = 103 from rfl)]
    have cc := s30 (nat := nat) (d := d) (w := w) (x := x) (m := m) (a := a) (on := 0) (N := N) (K := K) hx hm hd ha hN hK
    split at cc
    · rename_i hq
      rw [if_pos hq]
      simp (disch := first | omega | exact Nat.le_of_ble_eq_true rfl | decide) only [e28_0, e28_1, e28_3, e28_6, e28_7, e28_8, e28_11, e28_12, e28_13, e28_14z0, e28_14z1, e28_17, e28_18s100, e28_18s103, e28_18s108, e28_18s114, e28_60, e28_61, e28_62, e28_65, e28_66, e28_67, e28_68, e28_71, e28_72, e28_73, e28_74, e28_77, e28_78, e28_79, e28_80, e28_83, e28_84, e28_85, J_add, J_sub, J_mul, J_neg, J_lt, J_le, J_eq, gArr_J, gAst_J, gSiz_J, gFld_o, gUpd_o0, gUpd_o1, gUpd_o2, gUpd_o3, gUpd_o4, gUpd_o5, gUpd_o6, gUpd_o7, gUpd_o8, gUpd_o9, gUpd_o10, gUpd_o11, gUpd_o12, gUpd_o13, gUpd_o14, gUpd_o15, gUpd_o16, gUpd_o17, gUpd_o18, gIsO_o, Option.bind_some, List.getElem?_cons_zero, List.getElem?_cons_succ, List.length_cons, List.length_nil, List.set_cons_zero, List.set_cons_succ, gCat_nil, gCat_int, gCat_ref, if_pos, if_neg, Option.toList_some, Option.toList_none, List.cons_append, List.nil_append, B_nar, J1_nar, J0_nar, if_true, if_false, rd_wr_same, rd_wr_ne, true_and, and_true, B_0, B_1, not_true_eq_false, not_false_eq_true, rdR0, rdR1, w0, cc, Option.isSome_some, Option.getD_some, B_pos, B_neg]
    · rename_i hq
      rw [if_neg hq]
      simp (disch := first | omega | exact Nat.le_of_ble_eq_true rfl | decide) only [e28_0, e28_1, e28_3, e28_6, e28_7, e28_8, e28_11, e28_12, e28_13, e28_14z0, e28_14z1, e28_17, e28_18s100, e28_18s103, e28_18s108, e28_18s114, e28_60, e28_61, e28_62, e28_65, e28_66, e28_67, e28_68, e28_71, e28_72, e28_73, e28_74, e28_77, e28_78, e28_79, e28_80, e28_83, e28_84, e28_85, J_add, J_sub, J_mul, J_neg, J_lt, J_le, J_eq, gArr_J, gAst_J, gSiz_J, gFld_o, gUpd_o0, gUpd_o1, gUpd_o2, gUpd_o3, gUpd_o4, gUpd_o5, gUpd_o6, gUpd_o7, gUpd_o8, gUpd_o9, gUpd_o10, gUpd_o11, gUpd_o12, gUpd_o13, gUpd_o14, gUpd_o15, gUpd_o16, gUpd_o17, gUpd_o18, gIsO_o, Option.bind_some, List.getElem?_cons_zero, List.getElem?_cons_succ, List.length_cons, List.length_nil, List.set_cons_zero, List.set_cons_succ, gCat_nil, gCat_int, gCat_ref, if_pos, if_neg, Option.toList_some, Option.toList_none, List.cons_append, List.nil_append, B_nar, J1_nar, J0_nar, if_true, if_false, rd_wr_same, rd_wr_ne, true_and, and_true, B_0, B_1, not_true_eq_false, not_false_eq_true, rdR0, rdR1, w0, cc, Option.isSome_none, Option.getD_none, B_pos, B_neg]
  by_cases h100 : c = 100
  · subst h100
    unfold tki
    rw [if_neg (show ¬ (100 : Int) = 112 by decide)]
    rw [if_neg (show ¬ (100 : Int) = 103 by decide)]
    rw [if_pos (show (100 : Int) = 100 from rfl)]
    have cc := s31 (nat := nat) (d := d) (w := w) (x := x) (m := m) (a := a) (on := 0) (N := N) (K := K) hx hm hd ha hN hK
    split at cc
    · rename_i hq
      rw [if_pos hq]
      simp (disch := first | omega | exact Nat.le_of_ble_eq_true rfl | decide) only [e28_0, e28_1, e28_3, e28_6, e28_7, e28_8, e28_11, e28_12, e28_13, e28_14z0, e28_14z1, e28_17, e28_18s100, e28_18s103, e28_18s108, e28_18s114, e28_60, e28_61, e28_62, e28_65, e28_66, e28_67, e28_68, e28_71, e28_72, e28_73, e28_74, e28_77, e28_78, e28_79, e28_80, e28_83, e28_84, e28_85, J_add, J_sub, J_mul, J_neg, J_lt, J_le, J_eq, gArr_J, gAst_J, gSiz_J, gFld_o, gUpd_o0, gUpd_o1, gUpd_o2, gUpd_o3, gUpd_o4, gUpd_o5, gUpd_o6, gUpd_o7, gUpd_o8, gUpd_o9, gUpd_o10, gUpd_o11, gUpd_o12, gUpd_o13, gUpd_o14, gUpd_o15, gUpd_o16, gUpd_o17, gUpd_o18, gIsO_o, Option.bind_some, List.getElem?_cons_zero, List.getElem?_cons_succ, List.length_cons, List.length_nil, List.set_cons_zero, List.set_cons_succ, gCat_nil, gCat_int, gCat_ref, if_pos, if_neg, Option.toList_some, Option.toList_none, List.cons_append, List.nil_append, B_nar, J1_nar, J0_nar, if_true, if_false, rd_wr_same, rd_wr_ne, true_and, and_true, B_0, B_1, not_true_eq_false, not_false_eq_true, rdR0, rdR1, w0, cc, Option.isSome_some, Option.getD_some, B_pos, B_neg]
    · rename_i hq
      rw [if_neg hq]
      simp (disch := first | omega | exact Nat.le_of_ble_eq_true rfl | decide) only [e28_0, e28_1, e28_3, e28_6, e28_7, e28_8, e28_11, e28_12, e28_13, e28_14z0, e28_14z1, e28_17, e28_18s100, e28_18s103, e28_18s108, e28_18s114, e28_60, e28_61, e28_62, e28_65, e28_66, e28_67, e28_68, e28_71, e28_72, e28_73, e28_74, e28_77, e28_78, e28_79, e28_80, e28_83, e28_84, e28_85, J_add, J_sub, J_mul, J_neg, J_lt, J_le, J_eq, gArr_J, gAst_J, gSiz_J, gFld_o, gUpd_o0, gUpd_o1, gUpd_o2, gUpd_o3, gUpd_o4, gUpd_o5, gUpd_o6, gUpd_o7, gUpd_o8, gUpd_o9, gUpd_o10, gUpd_o11, gUpd_o12, gUpd_o13, gUpd_o14, gUpd_o15, gUpd_o16, gUpd_o17, gUpd_o18, gIsO_o, Option.bind_some, List.getElem?_cons_zero, List.getElem?_cons_succ, List.length_cons, List.length_nil, List.set_cons_zero, List.set_cons_succ, gCat_nil, gCat_int, gCat_ref, if_pos, if_neg, Option.toList_some, Option.toList_none, List.cons_append, List.nil_append, B_nar, J1_nar, J0_nar, if_true, if_false, rd_wr_same, rd_wr_ne, true_and, and_true, B_0, B_1, not_true_eq_false, not_false_eq_true, rdR0, rdR1, w0, cc, Option.isSome_none, Option.getD_none, B_pos, B_neg]
  by_cases h108 : c = 108
  · subst h108
    unfold tki
    rw [if_neg (show ¬ (108 : Int) = 112 by decide)]
    rw [if_neg (show ¬ (108 : Int) = 103 by decide)]
    rw [if_neg (show ¬ (108 : Int) = 100 by decide)]
    rw [if_pos (show (108 : Int) = 108 from rfl)]
    have cc := s32 (nat := nat) (d := d) (w := w) (x := x) (m := m) (a := a) (on := 0) (N := N) (K := K) hx hm hd ha hN hK
    split at cc
    · rename_i hq
      rw [if_pos hq]
      simp (disch := first | omega | exact Nat.le_of_ble_eq_true rfl | decide) only [e28_0, e28_1, e28_3, e28_6, e28_7, e28_8, e28_11, e28_12, e28_13, e28_14z0, e28_14z1, e28_17, e28_18s100, e28_18s103, e28_18s108, e28_18s114, e28_60, e28_61, e28_62, e28_65, e28_66, e28_67, e28_68, e28_71, e28_72, e28_73, e28_74, e28_77, e28_78, e28_79, e28_80, e28_83, e28_84, e28_85, J_add, J_sub, J_mul, J_neg, J_lt, J_le, J_eq, gArr_J, gAst_J, gSiz_J, gFld_o, gUpd_o0, gUpd_o1, gUpd_o2, gUpd_o3, gUpd_o4, gUpd_o5, gUpd_o6, gUpd_o7, gUpd_o8, gUpd_o9, gUpd_o10, gUpd_o11, gUpd_o12, gUpd_o13, gUpd_o14, gUpd_o15, gUpd_o16, gUpd_o17, gUpd_o18, gIsO_o, Option.bind_some, List.getElem?_cons_zero, List.getElem?_cons_succ, List.length_cons, List.length_nil, List.set_cons_zero, List.set_cons_succ, gCat_nil, gCat_int, gCat_ref, if_pos, if_neg, Option.toList_some, Option.toList_none, List.cons_append, List.nil_append, B_nar, J1_nar, J0_nar, if_true, if_false, rd_wr_same, rd_wr_ne, true_and, and_true, B_0, B_1, not_true_eq_false, not_false_eq_true, rdR0, rdR1, w0, cc, Option.isSome_some, Option.getD_some, B_pos, B_neg]
    · rename_i hq
      rw [if_neg hq]
      simp (disch := first | omega | exact Nat.le_of_ble_eq_true rfl | decide) only [e28_0, e28_1, e28_3, e28_6, e28_7, e28_8, e28_11, e28_12, e28_13, e28_14z0, e28_14z1, e28_17, e28_18s100, e28_18s103, e28_18s108, e28_18s114, e28_60, e28_61, e28_62, e28_65, e28_66, e28_67, e28_68, e28_71, e28_72, e28_73, e28_74, e28_77, e28_78, e28_79, e28_80, e28_83, e28_84, e28_85, J_add, J_sub, J_mul, J_neg, J_lt, J_le, J_eq, gArr_J, gAst_J, gSiz_J, gFld_o, gUpd_o0, gUpd_o1, gUpd_o2, gUpd_o3, gUpd_o4, gUpd_o5, gUpd_o6, gUpd_o7, gUpd_o8, gUpd_o9, gUpd_o10, gUpd_o11, gUpd_o12, gUpd_o13, gUpd_o14, gUpd_o15, gUpd_o16, gUpd_o17, gUpd_o18, gIsO_o, Option.bind_some, List.getElem?_cons_zero, List.getElem?_cons_succ, List.length_cons, List.length_nil, List.set_cons_zero, List.set_cons_succ, gCat_nil, gCat_int, gCat_ref, if_pos, if_neg, Option.toList_some, Option.toList_none, List.cons_append, List.nil_append, B_nar, J1_nar, J0_nar, if_true, if_false, rd_wr_same, rd_wr_ne, true_and, and_true, B_0, B_1, not_true_eq_false, not_false_eq_true, rdR0, rdR1, w0, cc, Option.isSome_none, Option.getD_none, B_pos, B_neg]
  by_cases h114 : c = 114
  · subst h114
    unfold tki
    rw [if_neg (show ¬ (114 : Int) = 112 by decide)]
    rw [if_neg (show ¬ (114 : Int) = 103 by decide)]
    rw [if_neg (show ¬ (114 : Int) = 100 by decide)]
    rw [if_neg (show ¬ (114 : Int) = 108 by decide)]
    rw [if_pos (show (114 : Int) = 114 from rfl)]
    have cc := s33 (nat := nat) (d := d) (w := w) (x := x) (m := m) (a := a) (on := 0) (N := N) (K := K) hx hm hd ha hN hK
    split at cc
    · rename_i hq
      rw [if_pos hq]
      simp (disch := first | omega | exact Nat.le_of_ble_eq_true rfl | decide) only [e28_0, e28_1, e28_3, e28_6, e28_7, e28_8, e28_11, e28_12, e28_13, e28_14z0, e28_14z1, e28_17, e28_18s100, e28_18s103, e28_18s108, e28_18s114, e28_60, e28_61, e28_62, e28_65, e28_66, e28_67, e28_68, e28_71, e28_72, e28_73, e28_74, e28_77, e28_78, e28_79, e28_80, e28_83, e28_84, e28_85, J_add, J_sub, J_mul, J_neg, J_lt, J_le, J_eq, gArr_J, gAst_J, gSiz_J, gFld_o, gUpd_o0, gUpd_o1, gUpd_o2, gUpd_o3, gUpd_o4, gUpd_o5, gUpd_o6, gUpd_o7, gUpd_o8, gUpd_o9, gUpd_o10, gUpd_o11, gUpd_o12, gUpd_o13, gUpd_o14, gUpd_o15, gUpd_o16, gUpd_o17, gUpd_o18, gIsO_o, Option.bind_some, List.getElem?_cons_zero, List.getElem?_cons_succ, List.length_cons, List.length_nil, List.set_cons_zero, List.set_cons_succ, gCat_nil, gCat_int, gCat_ref, if_pos, if_neg, Option.toList_some, Option.toList_none, List.cons_append, List.nil_append, B_nar, J1_nar, J0_nar, if_true, if_false, rd_wr_same, rd_wr_ne, true_and, and_true, B_0, B_1, not_true_eq_false, not_false_eq_true, rdR0, rdR1, w0, cc, Option.isSome_some, Option.getD_some, B_pos, B_neg]
    · rename_i hq
      rw [if_neg hq]
      simp (disch := first | omega | exact Nat.le_of_ble_eq_true rfl | decide) only [e28_0, e28_1, e28_3, e28_6, e28_7, e28_8, e28_11, e28_12, e28_13, e28_14z0, e28_14z1, e28_17, e28_18s100, e28_18s103, e28_18s108, e28_18s114, e28_60, e28_61, e28_62, e28_65, e28_66, e28_67, e28_68, e28_71, e28_72, e28_73, e28_74, e28_77, e28_78, e28_79, e28_80, e28_83, e28_84, e28_85, J_add, J_sub, J_mul, J_neg, J_lt, J_le, J_eq, gArr_J, gAst_J, gSiz_J, gFld_o, gUpd_o0, gUpd_o1, gUpd_o2, gUpd_o3, gUpd_o4, gUpd_o5, gUpd_o6, gUpd_o7, gUpd_o8, gUpd_o9, gUpd_o10, gUpd_o11, gUpd_o12, gUpd_o13, gUpd_o14, gUpd_o15, gUpd_o16, gUpd_o17, gUpd_o18, gIsO_o, Option.bind_some, List.getElem?_cons_zero, List.getElem?_cons_succ, List.length_cons, List.length_nil, List.set_cons_zero, List.set_cons_succ, gCat_nil, gCat_int, gCat_ref, if_pos, if_neg, Option.toList_some, Option.toList_none, List.cons_append, List.nil_append, B_nar, J1_nar, J0_nar, if_true, if_false, rd_wr_same, rd_wr_ne, true_and, and_true, B_0, B_1, not_true_eq_false, not_false_eq_true, rdR0, rdR1, w0, cc, Option.isSome_none, Option.getD_none, B_pos, B_neg]
  unfold tki
  rw [if_neg h112, if_neg h103, if_neg h100, if_neg h108, if_neg h114]
  simp (disch := first | omega | exact Nat.le_of_ble_eq_true rfl | decide) only [e28_0, e28_1, e28_3, e28_6, e28_7, e28_8, e28_11, e28_12, e28_13, e28_14z0, e28_14z1, e28_17, e28_18s100, e28_18s103, e28_18s108, e28_18s114, e28_60, e28_61, e28_62, e28_65, e28_66, e28_67, e28_68, e28_71, e28_72, e28_73, e28_74, e28_77, e28_78, e28_79, e28_80, e28_83, e28_84, e28_85, J_add, J_sub, J_mul, J_neg, J_lt, J_le, J_eq, gArr_J, gAst_J, gSiz_J, gFld_o, gUpd_o0, gUpd_o1, gUpd_o2, gUpd_o3, gUpd_o4, gUpd_o5, gUpd_o6, gUpd_o7, gUpd_o8, gUpd_o9, gUpd_o10, gUpd_o11, gUpd_o12, gUpd_o13, gUpd_o14, gUpd_o15, gUpd_o16, gUpd_o17, gUpd_o18, gIsO_o, Option.bind_some, List.getElem?_cons_zero, List.getElem?_cons_succ, List.length_cons, List.length_nil, List.set_cons_zero, List.set_cons_succ, gCat_nil, gCat_int, gCat_ref, if_pos, if_neg, Option.toList_some, Option.toList_none, List.cons_append, List.nil_append, B_nar, J1_nar, J0_nar, if_true, if_false, rd_wr_same, rd_wr_ne, true_and, and_true, B_0, B_1, not_true_eq_false, not_false_eq_true, rdR0, rdR1, w0, e28_18d h_c h100 h103 h108 h114, Option.isSome_none, Option.getD_none, B_pos, B_neg]
