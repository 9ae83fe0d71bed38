abbrev seeI (K : Lay) (a b u : Int) : Prop := okP K a ∧ okP K b ∧ ¬ a = b ∧ (0 ≤ u ∧ u ≤ 1)
abbrev seeC (X K : Lay) (a b u : Int) : Prop := seeI K a b u ∧ X 0 4 < 8
def aSee (X K : Lay) (a b u : Int) : Int := if seeI K a b u then (if 8 ≤ X 0 4 then -3 else X 0 4 + 1) else -1
def seeX (X : Lay) (a b u : Int) : Lay := sset (sset (sset (sset X 2 (X 0 4) a) 3 (X 0 4) b) 4 (X 0 4) u) 0 4 (X 0 4 + 1)
theorem seeX_0 {X : Lay} {a b u i : Int} (h : i ≠ 4) : (seeX X a b u) 0 i = X 0 i := by
  unfold seeX
  rw [sset_fset, fset_ne h, sset_row (by decide), sset_row (by decide), sset_row (by decide)]
theorem seeX_04 {X : Lay} {a b u : Int} : (seeX X a b u) 0 4 = X 0 4 + 1 := sset_at
theorem seeX_1 {X : Lay} {a b u : Int} : (seeX X a b u) 1 = X 1 := by
  unfold seeX
  rw [sset_row (by decide), sset_row (by decide), sset_row (by decide), sset_row (by decide)]
theorem seeX_2 {X : Lay} {a b u : Int} : (seeX X a b u) 2 = fset (X 2) (X 0 4) a := by
  unfold seeX
  rw [sset_row (by decide), sset_row (by decide), sset_row (by decide), sset_fset]
theorem seeX_3 {X : Lay} {a b u : Int} : (seeX X a b u) 3 = fset (X 3) (X 0 4) b := by
  unfold seeX
  rw [sset_row (by decide), sset_row (by decide), sset_fset, sset_row (by decide)]
theorem seeX_4 {X : Lay} {a b u : Int} : (seeX X a b u) 4 = fset (X 4) (X 0 4) u := by
  unfold seeX
  rw [sset_row (by decide), sset_fset, sset_row (by decide), sset_row (by decide)]

theorem x95 {nat : gNat} {d : Nat} {w : gWd} {p q : Nat} {X K S : Lay} {PT KT : Nat → Lay} (hX : isX w p q X K S PT KT) (hK : vK K) (hS : vS K S) (hH : 0 ≤ S 0 0 ∧ S 0 0 < 1000000) (hr : rX X) {a b u : Int} (h_a : -2147483648 ≤ a ∧ a < 2147483648) (h_b : -2147483648 ≤ b ∧ b < 2147483648) (h_u : -2147483648 ≤ u ∧ u < 2147483648)  : ∃ w', gC nat (d + 25) 95 [.ref 0, .int (J a), .int (J b), .int (J u)] w = some (some (.int (J (aSee X K a b u))), w') ∧ isX w' p q (if seeC X K a b u then seeX X a b u else X) K S PT KT ∧ (∀ z, 96 ≤ z → rd w' z = rd w z) ∧ w'.2 = w.2 := by
  rw [en95]
  obtain ⟨i0, iT, iR, iK, iQ, iS, inS, iTr, iP, iKp, iE, iH, iW, iD, hpq⟩ := id hX
  obtain ⟨r0, rT, r1, r2, r3, r4⟩ := hr
  unfold aSee
  have c1 := s107 (nat := nat) (d := d + 22) (w := w) i0 iK hK (g := a) h_a
  have c2 := s107 (nat := nat) (d := d + 22) (w := w) i0 iK hK (g := b) h_b
  have c3 := s113 (nat := nat) (d := d + 23) (w := w) (x := u) (l := 0) (h := 1) (by omega) (by omega) (by omega)
  obtain ⟨st, lo, bp, bq, A4, eE, hA4⟩ := cE_put iE
  have e0 : rd w 64 = oC 5 [.int (J (X 0 4)), .int (J st), .int (J lo), .int (J bp), .int (J bq), .ref (64 + 1), .ref (64 + 2), .ref (64 + 3), .ref (64 + 4)] := by rw [eE]; exact rdE0
  have bad : ¬ seeI K a b u → (gX (gC nat (d + 24)) nat 95 0 [some (.ref 0), some (.int (J a)), some (.int (J b)), some (.int (J u))] [] [] w = some (some (.int (J (-1))), w)) → ∃ w', gX (gC nat (d + 24)) nat 95 0 [some (.ref 0), some (.int (J a)), some (.int (J b)), some (.int (J u))] [] [] w = some (some (.int (J (if seeI K a b u then (if 8 ≤ X 0 4 then -3 else X 0 4 + 1) else -1))), w') ∧ isX w' p q (if seeC X K a b u then seeX X a b u else X) K S PT KT ∧ (∀ z, 96 ≤ z → rd w' z = rd w z) ∧ w'.2 = w.2 := fun hn hv => by
    rw [if_neg hn, if_neg (show ¬ seeC X K a b u from fun z => hn z.1)]
    exact ⟨w, hv, hX, fun _ _ => rfl, rfl⟩
  by_cases h1 : okP K a
  rotate_left
  · rw [B_neg h1] at c1
    refine bad (fun z => h1 z.1) ?_
    simp (disch := first | omega | exact Nat.le_of_ble_eq_true rfl) only [e95_0, e95_1, e95_2, e95_5, e95_8, e95_9, e95_10, e95_13, e95_16, e95_17, e95_18, e95_21, e95_22, e95_23, e95_24, e95_27, e95_30, e95_31, e95_32, e95_33, e95_36, e95_39, e95_41, e95_44, e95_46, e95_47, e95_48, e95_51, e95_52, e95_53, e95_54, e95_57, e95_58, e95_61, e95_64, J_add, J_sub, J_mul, J_neg, J_lt, J_le, J_eq, gArr_J, gAst_J, gSiz_J, gFld_o, gUpd_o0, gUpd_o1, gUpd_o2, gUpd_o3, gUpd_o4, gUpd_o5, gUpd_o6, gUpd_o7, gUpd_o8, gUpd_o9, gUpd_o10, gUpd_o11, gUpd_o12, gUpd_o13, gUpd_o14, gUpd_o15, gUpd_o16, gUpd_o17, gUpd_o18, gIsO_o, Option.bind_some, List.getElem?_cons_zero, List.getElem?_cons_succ, List.length_cons, List.length_nil, List.set_cons_zero, List.set_cons_succ, gCat_nil, gCat_int, gCat_ref, if_pos, if_neg, Option.toList_some, Option.toList_none, List.cons_append, List.nil_append, B_nar, J1_nar, J0_nar, if_true, if_false, rd_wr_same, rd_wr_ne, true_and, and_true, B_0, B_1, not_true_eq_false, not_false_eq_true, i0, c1]
  rw [B_pos h1] at c1
  by_cases h2 : okP K b
  rotate_left
  · rw [B_neg h2] at c2
    refine bad (fun z => h2 z.2.1) ?_
    simp (disch := first | omega | exact Nat.le_of_ble_eq_true rfl) only [e95_0, e95_1, e95_2, e95_5, e95_8, e95_9, e95_10, e95_13, e95_16, e95_17, e95_18, e95_21, e95_22, e95_23, e95_24, e95_27, e95_30, e95_31, e95_32, e95_33, e95_36, e95_39, e95_41, e95_44, e95_46, e95_47, e95_48, e95_51, e95_52, e95_53, e95_54, e95_57, e95_58, e95_61, e95_64, J_add, J_sub, J_mul, J_neg, J_lt, J_le, J_eq, gArr_J, gAst_J, gSiz_J, gFld_o, gUpd_o0, gUpd_o1, gUpd_o2, gUpd_o3, gUpd_o4, gUpd_o5, gUpd_o6, gUpd_o7, gUpd_o8, gUpd_o9, gUpd_o10, gUpd_o11, gUpd_o12, gUpd_o13, gUpd_o14, gUpd_o15, gUpd_o16, gUpd_o17, gUpd_o18, gIsO_o, Option.bind_some, List.getElem?_cons_zero, List.getElem?_cons_succ, List.length_cons, List.length_nil, List.set_cons_zero, List.set_cons_succ, gCat_nil, gCat_int, gCat_ref, if_pos, if_neg, Option.toList_some, Option.toList_none, List.cons_append, List.nil_append, B_nar, J1_nar, J0_nar, if_true, if_false, rd_wr_same, rd_wr_ne, true_and, and_true, B_0, B_1, not_true_eq_false, not_false_eq_true, i0, c1, c2]
  rw [B_pos h2] at c2
  by_cases h3 : a = b
  · refine bad (fun z => z.2.2.1 h3) ?_
    simp (disch := first | omega | exact Nat.le_of_ble_eq_true rfl) only [e95_0, e95_1, e95_2, e95_5, e95_8, e95_9, e95_10, e95_13, e95_16, e95_17, e95_18, e95_21, e95_22, e95_23, e95_24, e95_27, e95_30, e95_31, e95_32, e95_33, e95_36, e95_39, e95_41, e95_44, e95_46, e95_47, e95_48, e95_51, e95_52, e95_53, e95_54, e95_57, e95_58, e95_61, e95_64, J_add, J_sub, J_mul, J_neg, J_lt, J_le, J_eq, gArr_J, gAst_J, gSiz_J, gFld_o, gUpd_o0, gUpd_o1, gUpd_o2, gUpd_o3, gUpd_o4, gUpd_o5, gUpd_o6, gUpd_o7, gUpd_o8, gUpd_o9, gUpd_o10, gUpd_o11, gUpd_o12, gUpd_o13, gUpd_o14, gUpd_o15, gUpd_o16, gUpd_o17, gUpd_o18, gIsO_o, Option.bind_some, List.getElem?_cons_zero, List.getElem?_cons_succ, List.length_cons, List.length_nil, List.set_cons_zero, List.set_cons_succ, gCat_nil, gCat_int, gCat_ref, if_pos, if_neg, Option.toList_some, Option.toList_none, List.cons_append, List.nil_append, B_nar, J1_nar, J0_nar, if_true, if_false, rd_wr_same, rd_wr_ne, true_and, and_true, B_0, B_1, not_true_eq_false, not_false_eq_true, i0, c1, c2]
  by_cases h4 : 0 ≤ u ∧ u ≤ 1
  rotate_left
  · rw [B_neg h4] at c3
    refine bad (fun z => h4 z.2.2.2) ?_
    simp (disch := first | omega | exact Nat.le_of_ble_eq_true rfl) only [e95_0, e95_1, e95_2, e95_5, e95_8, e95_9, e95_10, e95_13, e95_16, e95_17, e95_18, e95_21, e95_22, e95_23, e95_24, e95_27, e95_30, e95_31, e95_32, e95_33, e95_36, e95_39, e95_41, e95_44, e95_46, e95_47, e95_48, e95_51, e95_52, e95_53, e95_54, e95_57, e95_58, e95_61, e95_64, J_add, J_sub, J_mul, J_neg, J_lt, J_le, J_eq, gArr_J, gAst_J, gSiz_J, gFld_o, gUpd_o0, gUpd_o1, gUpd_o2, gUpd_o3, gUpd_o4, gUpd_o5, gUpd_o6, gUpd_o7, gUpd_o8, gUpd_o9, gUpd_o10, gUpd_o11, gUpd_o12, gUpd_o13, gUpd_o14, gUpd_o15, gUpd_o16, gUpd_o17, gUpd_o18, gIsO_o, Option.bind_some, List.getElem?_cons_zero, List.getElem?_cons_succ, List.length_cons, List.length_nil, List.set_cons_zero, List.set_cons_succ, gCat_nil, gCat_int, gCat_ref, if_pos, if_neg, Option.toList_some, Option.toList_none, List.cons_append, List.nil_append, B_nar, J1_nar, J0_nar, if_true, if_false, rd_wr_same, rd_wr_ne, true_and, and_true, B_0, B_1, not_true_eq_false, not_false_eq_true, i0, c1, c2, c3]
  rw [B_pos h4] at c3
  have hI : seeI K a b u := ⟨h1, h2, h3, h4⟩
  rw [if_pos hI]
  by_cases h5 : 8 ≤ X 0 4
  · rw [if_pos h5, if_neg (show ¬ seeC X K a b u from fun z => by have := z.2; omega)]
    refine ⟨w, ?_, hX, fun _ _ => rfl, rfl⟩
    simp (disch := first | omega | exact Nat.le_of_ble_eq_true rfl) only [e95_0, e95_1, e95_2, e95_5, e95_8, e95_9, e95_10, e95_13, e95_16, e95_17, e95_18, e95_21, e95_22, e95_23, e95_24, e95_27, e95_30, e95_31, e95_32, e95_33, e95_36, e95_39, e95_41, e95_44, e95_46, e95_47, e95_48, e95_51, e95_52, e95_53, e95_54, e95_57, e95_58, e95_61, e95_64, J_add, J_sub, J_mul, J_neg, J_lt, J_le, J_eq, gArr_J, gAst_J, gSiz_J, gFld_o, gUpd_o0, gUpd_o1, gUpd_o2, gUpd_o3, gUpd_o4, gUpd_o5, gUpd_o6, gUpd_o7, gUpd_o8, gUpd_o9, gUpd_o10, gUpd_o11, gUpd_o12, gUpd_o13, gUpd_o14, gUpd_o15, gUpd_o16, gUpd_o17, gUpd_o18, gIsO_o, Option.bind_some, List.getElem?_cons_zero, List.getElem?_cons_succ, List.length_cons, List.length_nil, List.set_cons_zero, List.set_cons_succ, gCat_nil, gCat_int, gCat_ref, if_pos, if_neg, Option.toList_some, Option.toList_none, List.cons_append, List.nil_append, B_nar, J1_nar, J0_nar, if_true, if_false, rd_wr_same, rd_wr_ne, true_and, and_true, B_0, B_1, not_true_eq_false, not_false_eq_true, i0, c1, c2, c3, e0]
  · rw [if_neg h5, if_pos (show seeC X K a b u from ⟨hI, by omega⟩)]
    have c4 := s43 (nat := nat) (d := d + 22) (w := w) (x := 64) (hd := X 0 4) (st := st) (lo := lo) (bp := bp) (bq := bq) (A1 := X 2) (A2 := X 3) (A3 := X 4) (A4 := A4) (by have := gSTR_big; omega) (a := a) (b := b) (c := u) (by omega)
    rw [← eE] at c4
    have F : ∀ z, (z < 64 ∨ 68 < z) → rd (putE w 64 (X 0 4 + 1) st lo bp bq (fset (X 2) (X 0 4) a) (fset (X 3) (X 0 4) b) (fset (X 4) (X 0 4) u) A4) z = rd w z := fun z hz => rdEn (by omega)
    have f0 : rd (putE w 64 (X 0 4 + 1) st lo bp bq (fset (X 2) (X 0 4) a) (fset (X 3) (X 0 4) b) (fset (X 4) (X 0 4) u) A4) 0 = _ := (F 0 (by omega)).trans i0
    have f1 : rd (putE w 64 (X 0 4 + 1) st lo bp bq (fset (X 2) (X 0 4) a) (fset (X 3) (X 0 4) b) (fset (X 4) (X 0 4) u) A4) 64 = _ := rdE0
    refine ⟨_, ?_, ⟨(by rw [F 0 (by omega), seeX_0 (by decide)]; exact i0), (by rw [F 1 (by omega), seeX_1]; exact iT), (cR_fr iR (fun z z1 z2 => F z (by omega))), (isMe_fr iK (fun z z1 z2 => F z (by omega))), (cQ_fr iQ (fun z z1 z2 => F z (by omega))), (isSt_fr iS (fun z z1 z2 => F z (by omega))), inS, (cTr_fr iTr (fun z z1 z2 => F z (by omega))), (by rw [seeX_0 (by decide), seeX_0 (by decide)]; exact isSh_fr iP (fun z z1 z2 => F z (by omega))), (by rw [seeX_0 (by decide)]; exact isSh_fr iKp (fun z z1 z2 => F z (by omega))), (by rw [seeX_04, seeX_2, seeX_3, seeX_4]; exact cE_of hA4), (cH_fr iH (fun z z1 z2 => F z (by omega))), (cW_fr iW (fun z z1 z2 => F z (by omega))), (cD_fr iD (fun z z1 z2 => F z (by omega))), hpq⟩, fun z hz => F z (by omega), rfl⟩
    simp (disch := first | omega | exact Nat.le_of_ble_eq_true rfl) only [e95_0, e95_1, e95_2, e95_5, e95_8, e95_9, e95_10, e95_13, e95_16, e95_17, e95_18, e95_21, e95_22, e95_23, e95_24, e95_27, e95_30, e95_31, e95_32, e95_33, e95_36, e95_39, e95_41, e95_44, e95_46, e95_47, e95_48, e95_51, e95_52, e95_53, e95_54, e95_57, e95_58, e95_61, e95_64, J_add, J_sub, J_mul, J_neg, J_lt, J_le, J_eq, gArr_J, gAst_J, gSiz_J, gFld_o, gUpd_o0, gUpd_o1, gUpd_o2, gUpd_o3, gUpd_o4, gUpd_o5, gUpd_o6, gUpd_o7, gUpd_o8, gUpd_o9, gUpd_o10, gUpd_o11, gUpd_o12, gUpd_o13, gUpd_o14, gUpd_o15, gUpd_o16, gUpd_o17, gUpd_o18, gIsO_o, Option.bind_some, List.getElem?_cons_zero, List.getElem?_cons_succ, List.length_cons, List.length_nil, List.set_cons_zero, List.set_cons_succ, gCat_nil, gCat_int, gCat_ref, if_pos, if_neg, Option.toList_some, Option.toList_none, List.cons_append, List.nil_append, B_nar, J1_nar, J0_nar, if_true, if_false, rd_wr_same, rd_wr_ne, true_and, and_true, B_0, B_1, not_true_eq_false, not_false_eq_true, i0, c1, c2, c3, c4, e0, f0, f1]

theorem x96 {nat : gNat} {d : Nat} {w : gWd} {p q : Nat} {X K S : Lay} {PT KT : Nat → Lay} (hX : isX w p q X K S PT KT) (hK : vK K) (hS : vS K S) (hH : 0 ≤ S 0 0 ∧ S 0 0 < 1000000)  : ∃ w', gC nat (d + 25) 96 [.ref 0] w = some (some (.int (J (X 0 4))), w') ∧ isX w' p q (sset X 0 4 0) K S PT KT ∧ (∀ z, 96 ≤ z → rd w' z = rd w z) ∧ w'.2 = w.2 := by
  rw [en96]
  obtain ⟨i0, iT, iR, iK, iQ, iS, inS, iTr, iP, iKp, iE, iH, iW, iD, hpq⟩ := id hX
  obtain ⟨st, lo, bp, bq, A4, eE, hA4⟩ := cE_put iE
  have e0 : rd w 64 = oC 5 [.int (J (X 0 4)), .int (J st), .int (J lo), .int (J bp), .int (J bq), .ref (64 + 1), .ref (64 + 2), .ref (64 + 3), .ref (64 + 4)] := by rw [eE]; exact rdE0
  have c4 := s42 (nat := nat) (d := d + 23) (w := w) (x := 64) (hd := X 0 4) (st := st) (lo := lo) (bp := bp) (bq := bq) (A1 := X 2) (A2 := X 3) (A3 := X 4) (A4 := A4) (by have := gSTR_big; omega)
  rw [← eE] at c4
  have F : ∀ z, (z < 64 ∨ 68 < z) → rd (putE w 64 0 st lo bp bq (X 2) (X 3) (X 4) A4) z = rd w z := fun z hz => rdEn (by omega)
  refine ⟨_, ?_, ⟨(by rw [F 0 (by omega)]; exact i0), (by rw [F 1 (by omega)]; exact iT), (cR_fr iR (fun z z1 z2 => F z (by omega))), (isMe_fr iK (fun z z1 z2 => F z (by omega))), (cQ_fr iQ (fun z z1 z2 => F z (by omega))), (isSt_fr iS (fun z z1 z2 => F z (by omega))), inS, (cTr_fr iTr (fun z z1 z2 => F z (by omega))), (isSh_fr iP (fun z z1 z2 => F z (by omega))), (isSh_fr iKp (fun z z1 z2 => F z (by omega))), (cE_of hA4), (cH_fr iH (fun z z1 z2 => F z (by omega))), (cW_fr iW (fun z z1 z2 => F z (by omega))), (cD_fr iD (fun z z1 z2 => F z (by omega))), hpq⟩, fun z hz => F z (by omega), rfl⟩
  simp (disch := first | omega | exact Nat.le_of_ble_eq_true rfl) only [e96_0, e96_1, e96_4, e96_7, e96_8, e96_9, e96_12, e96_15, e96_16, J_add, J_sub, J_mul, J_neg, J_lt, J_le, J_eq, gArr_J, gAst_J, gSiz_J, gFld_o, gUpd_o0, gUpd_o1, gUpd_o2, gUpd_o3, gUpd_o4, gUpd_o5, gUpd_o6, gUpd_o7, gUpd_o8, gUpd_o9, gUpd_o10, gUpd_o11, gUpd_o12, gUpd_o13, gUpd_o14, gUpd_o15, gUpd_o16, gUpd_o17, gUpd_o18, gIsO_o, Option.bind_some, List.getElem?_cons_zero, List.getElem?_cons_succ, List.length_cons, List.length_nil, List.set_cons_zero, List.set_cons_succ, gCat_nil, gCat_int, gCat_ref, if_pos, if_neg, Option.toList_some, Option.toList_none, List.cons_append, List.nil_append, B_nar, J1_nar, J0_nar, if_true, if_false, rd_wr_same, rd_wr_ne, true_and, and_true, B_0, B_1, not_true_eq_false, not_false_eq_true, i0, e0, c4]

theorem rdl_in (t : Int → Int) (L : Int) (hL : L ≤ 300) : ∀ (k : Nat) (p on : Int) (K : Lay), 0 ≤ p → -10 ≤ (rdl t L k p on K).1 ∧ (rdl t L k p on K).1 ≤ 300 := by
  intro k
  induction k with
  | zero => intro p on K h; exact ⟨by show (-10 : Int) ≤ -4; decide, by show (-4 : Int) ≤ 300; decide⟩
  | succ k ih =>
    intro p on K h
    rw [rdl]
    split
    · split
      · dsimp only; omega
      · rename_i r hr
        split
        · dsimp only; omega
        · obtain ⟨a, q, R⟩ := r
          have := nums_in _ _ _ _ _ _ _ _ hr
          exact ih _ _ _ (by dsimp only; omega)
    · exact ⟨by show (-10 : Int) ≤ -4; decide, by show (-4 : Int) ≤ 300; decide⟩

theorem isX_sw {w : gWd} {p q : Nat} {X K S Q : Lay} {PT KT : Nat → Lay} (hX : isX w p q X K S PT KT) (hQ : isMe w q Q) : isX (wr w 0 (oC 8 [.ref 1, .int (J (X 0 0)), .ref 2, .ref q, .ref p, .ref 12, .ref 16, .ref 20, .ref 54, .ref 64, .ref 69, .ref 71, .ref 91])) q p X Q S PT KT := by
  obtain ⟨i0, iT, iR, iK, iQ, iS, inS, iTr, iP, iKp, iE, iH, iW, iD, hpq⟩ := id hX
  have F : ∀ z, z ≠ 0 → rd (wr w 0 (oC 8 [.ref 1, .int (J (X 0 0)), .ref 2, .ref q, .ref p, .ref 12, .ref 16, .ref 20, .ref 54, .ref 64, .ref 69, .ref 71, .ref 91])) z = rd w z := fun z hz => rd_wr_ne hz
  exact ⟨rd_wr_same, (by rw [F 1 (by omega)]; exact iT), (cR_fr iR (fun z z1 z2 => F z (by omega))), (isMe_fr hQ (fun z z1 z2 => F z (by omega))), ⟨K, isMe_fr iK (fun z z1 z2 => F z (by omega))⟩, (isSt_fr iS (fun z z1 z2 => F z (by omega))), inS, (cTr_fr iTr (fun z z1 z2 => F z (by omega))), (isSh_fr iP (fun z z1 z2 => F z (by omega))), (isSh_fr iKp (fun z z1 z2 => F z (by omega))), (cE_fr iE (fun z z1 z2 => F z (by omega))), (cH_fr iH (fun z z1 z2 => F z (by omega))), (cW_fr iW (fun z z1 z2 => F z (by omega))), (cD_fr iD (fun z z1 z2 => F z (by omega))), (by omega)⟩
abbrev layC (X Q : Lay) : Prop := (rdX X Q).1 = -4 ∧ ¬ (rdX X Q).2 0 1 < 1 ∧ ¬ (rdX X Q).2 0 2 < 1

theorem x79 {nat : gNat} {d : Nat} {w : gWd} {p q : Nat} {X K S : Lay} {PT KT : Nat → Lay} (hX : isX w p q X K S PT KT) (hK : vK K) (hS : vS K S) (hH : 0 ≤ S 0 0 ∧ S 0 0 < 1000000) (hL : 0 ≤ X 0 0 ∧ X 0 0 ≤ 200) (hT : ∀ i, 0 ≤ i → i < 200 → 0 ≤ X 1 i ∧ X 1 i < 128) {Q : Lay} (hQ : isMe w q Q) : ∃ w', gC nat (d + 25) 79 [.ref 0] w = some (some (.int (J (if layC X Q then (rdX X Q).2 0 1 else -2))), w') ∧ isX w' (if layC X Q then q else p) (if layC X Q then p else q) (if layC X Q then sset (sset (sset X 0 1 0) 0 3 0) 0 4 0 else X) (if layC X Q then (rdX X Q).2 else K) (if layC X Q then begS (rdX X Q).2 else S) PT KT ∧ (∀ z, 96 ≤ z → rd w' z = rd w z) ∧ w'.2 = w.2 := by
  obtain ⟨w1, g1, g2, g3, g4, g5, g6⟩ := s26x (nat := nat) (d := d + 19) hX hL hT hQ
  obtain ⟨i0, iT, iR, iK, iQ, iS, inS, iTr, iP, iKp, iE, iH, iW, iD, hpq⟩ := id hX
  obtain ⟨am, on, N, r2, -⟩ := iR
  have hv : vK (rdX X Q).2 := vK_rdl _ _ _ _ _ _ (vK_clr Q) (Or.inr rfl) (fun _ => by simp [clrK, sset])
  have hr1 : -10 ≤ (rdX X Q).1 ∧ (rdX X Q).1 ≤ 300 := rdl_in _ _ (by omega) _ _ _ _ (by omega)
  have f0 : rd w1 0 = _ := g4.trans i0
  have fq := g3.2.1
  rw [en79]
  unfold layC
  generalize hR : rdX X Q = R at *
  by_cases h1 : R.1 = -4
  · rw [h1] at g1
    by_cases h2 : R.2 0 1 < 1
    · have hn : ¬ (R.1 = -4 ∧ ¬ R.2 0 1 < 1 ∧ ¬ R.2 0 2 < 1) := fun z => z.2.1 h2
      simp only [if_neg hn]
      refine ⟨w1, ?_, g2, g5, g6⟩
      have := hv.2.1
      simp (disch := first | omega | exact Nat.le_of_ble_eq_true rfl) only [e79_0, e79_1, e79_4, e79_5, e79_8, e79_9, e79_12, e79_13, e79_16, e79_19, e79_21, e79_24, e79_25, e79_28, e79_31, e79_32, e79_35, e79_36, e79_39, e79_42, e79_43, e79_46, e79_48, e79_49, e79_50, e79_53, e79_54, e79_55, e79_56, e79_59, e79_62, e79_63, e79_64, e79_67, e79_68, e79_71, e79_72, e79_75, e79_78, J_add, J_sub, J_mul, J_neg, J_lt, J_le, J_eq, gArr_J, gAst_J, gSiz_J, gFld_o, gUpd_o0, gUpd_o1, gUpd_o2, gUpd_o3, gUpd_o4, gUpd_o5, gUpd_o6, gUpd_o7, gUpd_o8, gUpd_o9, gUpd_o10, gUpd_o11, gUpd_o12, gUpd_o13, gUpd_o14, gUpd_o15, gUpd_o16, gUpd_o17, gUpd_o18, gIsO_o, Option.bind_some, List.getElem?_cons_zero, List.getElem?_cons_succ, List.length_cons, List.length_nil, List.set_cons_zero, List.set_cons_succ, gCat_nil, gCat_int, gCat_ref, if_pos, if_neg, Option.toList_some, Option.toList_none, List.cons_append, List.nil_append, B_nar, J1_nar, J0_nar, if_true, if_false, rd_wr_same, rd_wr_ne, true_and, and_true, B_0, B_1, not_true_eq_false, not_false_eq_true, i0, r2, g1, f0, fq]
    · by_cases h3 : R.2 0 2 < 1
      · have hn : ¬ (R.1 = -4 ∧ ¬ R.2 0 1 < 1 ∧ ¬ R.2 0 2 < 1) := fun z => z.2.2 h3
        simp only [if_neg hn]
        refine ⟨w1, ?_, g2, g5, g6⟩
        have := hv.2.1
        have := hv.2.2.1
        simp (disch := first | omega | exact Nat.le_of_ble_eq_true rfl) only [e79_0, e79_1, e79_4, e79_5, e79_8, e79_9, e79_12, e79_13, e79_16, e79_19, e79_21, e79_24, e79_25, e79_28, e79_31, e79_32, e79_35, e79_36, e79_39, e79_42, e79_43, e79_46, e79_48, e79_49, e79_50, e79_53, e79_54, e79_55, e79_56, e79_59, e79_62, e79_63, e79_64, e79_67, e79_68, e79_71, e79_72, e79_75, e79_78, J_add, J_sub, J_mul, J_neg, J_lt, J_le, J_eq, gArr_J, gAst_J, gSiz_J, gFld_o, gUpd_o0, gUpd_o1, gUpd_o2, gUpd_o3, gUpd_o4, gUpd_o5, gUpd_o6, gUpd_o7, gUpd_o8, gUpd_o9, gUpd_o10, gUpd_o11, gUpd_o12, gUpd_o13, gUpd_o14, gUpd_o15, gUpd_o16, gUpd_o17, gUpd_o18, gIsO_o, Option.bind_some, List.getElem?_cons_zero, List.getElem?_cons_succ, List.length_cons, List.length_nil, List.set_cons_zero, List.set_cons_succ, gCat_nil, gCat_int, gCat_ref, if_pos, if_neg, Option.toList_some, Option.toList_none, List.cons_append, List.nil_append, B_nar, J1_nar, J0_nar, if_true, if_false, rd_wr_same, rd_wr_ne, true_and, and_true, B_0, B_1, not_true_eq_false, not_false_eq_true, i0, r2, g1, f0, fq]
      · have hc : R.1 = -4 ∧ ¬ R.2 0 1 < 1 ∧ ¬ R.2 0 2 < 1 := ⟨h1, h2, h3⟩
        simp only [if_pos hc]
        have hs := isX_sw g2 g3
        obtain ⟨w2, k1, k2, k3, k4, k5⟩ := s104 (nat := nat) (d := d + 21) hs hv
        have hk2 := k2
        obtain ⟨j0, jT, jR, jK, jQ, jS, jnS, jTr, jP, jKp, jE, jH, jW, jD, -⟩ := id k2
        refine ⟨w2, ?_, k2, fun z hz => (k4 z hz).trans ((rd_wr_ne (by omega)).trans (g5 z hz)), k5.trans g6⟩
        have := hv.2.1
        have := hv.2.2.1
        have f3 : rd w2 0 = oC 8 [.ref 1, .int (J (X 0 0)), .ref 2, .ref q, .ref p, .ref 12, .ref 16, .ref 20, .ref 54, .ref 64, .ref 69, .ref 71, .ref 91] := k3.trans rd_wr_same
        simp (disch := first | omega | exact Nat.le_of_ble_eq_true rfl) only [e79_0, e79_1, e79_4, e79_5, e79_8, e79_9, e79_12, e79_13, e79_16, e79_19, e79_21, e79_24, e79_25, e79_28, e79_31, e79_32, e79_35, e79_36, e79_39, e79_42, e79_43, e79_46, e79_48, e79_49, e79_50, e79_53, e79_54, e79_55, e79_56, e79_59, e79_62, e79_63, e79_64, e79_67, e79_68, e79_71, e79_72, e79_75, e79_78, J_add, J_sub, J_mul, J_neg, J_lt, J_le, J_eq, gArr_J, gAst_J, gSiz_J, gFld_o, gUpd_o0, gUpd_o1, gUpd_o2, gUpd_o3, gUpd_o4, gUpd_o5, gUpd_o6, gUpd_o7, gUpd_o8, gUpd_o9, gUpd_o10, gUpd_o11, gUpd_o12, gUpd_o13, gUpd_o14, gUpd_o15, gUpd_o16, gUpd_o17, gUpd_o18, gIsO_o, Option.bind_some, List.getElem?_cons_zero, List.getElem?_cons_succ, List.length_cons, List.length_nil, List.set_cons_zero, List.set_cons_succ, gCat_nil, gCat_int, gCat_ref, if_pos, if_neg, Option.toList_some, Option.toList_none, List.cons_append, List.nil_append, B_nar, J1_nar, J0_nar, if_true, if_false, rd_wr_same, rd_wr_ne, true_and, and_true, B_0, B_1, not_true_eq_false, not_false_eq_true, i0, r2, g1, f0, fq, wr_wr, k1, f3, jK.2.1]
  · have hn : ¬ (R.1 = -4 ∧ ¬ R.2 0 1 < 1 ∧ ¬ R.2 0 2 < 1) := fun z => h1 z.1
    simp only [if_neg hn]
    refine ⟨w1, ?_, g2, g5, g6⟩
    simp (disch := first | omega | exact Nat.le_of_ble_eq_true rfl) only [e79_0, e79_1, e79_4, e79_5, e79_8, e79_9, e79_12, e79_13, e79_16, e79_19, e79_21, e79_24, e79_25, e79_28, e79_31, e79_32, e79_35, e79_36, e79_39, e79_42, e79_43, e79_46, e79_48, e79_49, e79_50, e79_53, e79_54, e79_55, e79_56, e79_59, e79_62, e79_63, e79_64, e79_67, e79_68, e79_71, e79_72, e79_75, e79_78, J_add, J_sub, J_mul, J_neg, J_lt, J_le, J_eq, gArr_J, gAst_J, gSiz_J, gFld_o, gUpd_o0, gUpd_o1, gUpd_o2, gUpd_o3, gUpd_o4, gUpd_o5, gUpd_o6, gUpd_o7, gUpd_o8, gUpd_o9, gUpd_o10, gUpd_o11, gUpd_o12, gUpd_o13, gUpd_o14, gUpd_o15, gUpd_o16, gUpd_o17, gUpd_o18, gIsO_o, Option.bind_some, List.getElem?_cons_zero, List.getElem?_cons_succ, List.length_cons, List.length_nil, List.set_cons_zero, List.set_cons_succ, gCat_nil, gCat_int, gCat_ref, if_pos, if_neg, Option.toList_some, Option.toList_none, List.cons_append, List.nil_append, B_nar, J1_nar, J0_nar, if_true, if_false, rd_wr_same, rd_wr_ne, true_and, and_true, B_0, B_1, not_true_eq_false, not_false_eq_true, i0, r2, g1, f0, fq]
