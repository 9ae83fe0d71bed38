abbrev ordI (K : Lay) (y n k : Int) : Prop := okD K y ∧ (1 ≤ n ∧ n ≤ 24) ∧ (-1 ≤ k ∧ k ≤ 3)
def ordR (K S : Lay) (y n : Int) (B0 : Int → Int) : Int × Int × (Int → Int) := dfs K y n 3 0 0 (aoff S) (fun _ => 0) (0, 0, B0)
def aOrd (K S : Lay) (y n k : Int) (B0 : Int → Int) : Int := if ordI K y n k then (if k = -1 then (ordR K S y n B0).1 else if k = 3 then (ordR K S y n B0).2.1 else if k < (ordR K S y n B0).1 then (ordR K S y n B0).2.2 k else -4) else -1
theorem vS_aoff {K S : Lay} (hS : vS K S) : vS K (aoff S) := by
  obtain ⟨s0, s1, s2, s3⟩ := hS
  refine ⟨by simpa [aoff] using s0, fun g g1 g2 => by simpa [aoff] using s1 g g1 g2, fun y y1 y2 => Or.inl ?_, fun y y1 y2 => by simpa [aoff] using s3 y y1 y2⟩
  unfold aoff
  rw [if_pos ⟨rfl, y1, y2⟩]

theorem x90 {nat : gNat} {d : Nat} {w : gWd} {p q : Nat} {X K S : Lay} {PT KT : Nat → Lay} (hX : isX w p q X K S PT KT) (hK : vK K) (hS : vS K S) (hH : 0 ≤ S 0 0 ∧ S 0 0 < 1000000) {y n k : Int} (h_y : -2147483648 ≤ y ∧ y < 2147483648) (h_n : -2147483648 ≤ n ∧ n < 2147483648) (h_k : -2147483648 ≤ k ∧ k < 2147483648)  : ∃ w' B0, gC nat (d + 25) 90 [.ref 0, .int (J y), .int (J n), .int (J k)] w = some (some (.int (J (aOrd K S y n k B0))), w') ∧ isX w' p q X K S PT KT ∧ (∀ z, 96 ≤ z → rd w' z = rd w z) ∧ w'.2 = w.2 := by
  rw [en90]
  obtain ⟨i0, iT, iR, iK, iQ, iS, inS, iTr, iP, iKp, iE, iH, iW, iD, hpq⟩ := id hX
  have c1 := s106 (nat := nat) (d := d + 22) (w := w) i0 iK hK (g := y) h_y
  have c2 := s113 (nat := nat) (d := d + 23) (w := w) (x := n) (l := 1) (h := 24) (by omega) (by omega) (by omega)
  have c3 := s113 (nat := nat) (d := d + 23) (w := w) (x := k) (l := -1) (h := 3) (by omega) (by omega) (by omega)
  have hb := gSTR_big
  unfold aOrd
  by_cases h1 : okD K y
  rotate_left
  · rw [B_neg h1] at c1
    simp only [if_neg (show ¬ ordI K y n k from fun z => h1 z.1)]
    refine ⟨w, fun _ => 0, ?_, hX, fun _ _ => rfl, rfl⟩
    simp (disch := first | omega | exact Nat.le_of_ble_eq_true rfl) only [e90_0, e90_1, e90_2, e90_5, e90_8, e90_9, e90_10, e90_12, e90_15, e90_18, e90_19, e90_20, e90_21, e90_24, e90_27, e90_28, e90_29, e90_30, e90_33, e90_34, e90_37, e90_38, e90_39, e90_42, e90_43, e90_46, e90_47, e90_50, e90_51, e90_52, e90_55, e90_56, e90_57, e90_60, e90_61, e90_64, e90_67, e90_68, e90_69, e90_70, e90_73, e90_74, e90_77, e90_80, e90_81, e90_82, e90_83, e90_86, e90_89, e90_92, e90_93, e90_96, e90_99, e90_100, e90_103, e90_106, e90_108, J_add, J_sub, J_mul, J_neg, J_lt, J_le, J_eq, gArr_J, gAst_J, gSiz_J, gFld_o, gUpd_o0, gUpd_o1, gUpd_o2, gUpd_o3, gUpd_o4, gUpd_o5, gUpd_o6, gUpd_o7, gUpd_o8, gUpd_o9, gUpd_o10, gUpd_o11, gUpd_o12, gUpd_o13, gUpd_o14, gUpd_o15, gUpd_o16, gUpd_o17, gUpd_o18, gIsO_o, Option.bind_some, List.getElem?_cons_zero, List.getElem?_cons_succ, List.length_cons, List.length_nil, List.set_cons_zero, List.set_cons_succ, gCat_nil, gCat_int, gCat_ref, if_pos, if_neg, Option.toList_some, Option.toList_none, List.cons_append, List.nil_append, B_nar, J1_nar, J0_nar, if_true, if_false, rd_wr_same, rd_wr_ne, true_and, and_true, B_0, B_1, not_true_eq_false, not_false_eq_true, i0, c1]
  rw [B_pos h1] at c1
  by_cases h2 : 1 ≤ n ∧ n ≤ 24
  rotate_left
  · rw [B_neg h2] at c2
    simp only [if_neg (show ¬ ordI K y n k from fun z => h2 z.2.1)]
    refine ⟨w, fun _ => 0, ?_, hX, fun _ _ => rfl, rfl⟩
    simp (disch := first | omega | exact Nat.le_of_ble_eq_true rfl) only [e90_0, e90_1, e90_2, e90_5, e90_8, e90_9, e90_10, e90_12, e90_15, e90_18, e90_19, e90_20, e90_21, e90_24, e90_27, e90_28, e90_29, e90_30, e90_33, e90_34, e90_37, e90_38, e90_39, e90_42, e90_43, e90_46, e90_47, e90_50, e90_51, e90_52, e90_55, e90_56, e90_57, e90_60, e90_61, e90_64, e90_67, e90_68, e90_69, e90_70, e90_73, e90_74, e90_77, e90_80, e90_81, e90_82, e90_83, e90_86, e90_89, e90_92, e90_93, e90_96, e90_99, e90_100, e90_103, e90_106, e90_108, J_add, J_sub, J_mul, J_neg, J_lt, J_le, J_eq, gArr_J, gAst_J, gSiz_J, gFld_o, gUpd_o0, gUpd_o1, gUpd_o2, gUpd_o3, gUpd_o4, gUpd_o5, gUpd_o6, gUpd_o7, gUpd_o8, gUpd_o9, gUpd_o10, gUpd_o11, gUpd_o12, gUpd_o13, gUpd_o14, gUpd_o15, gUpd_o16, gUpd_o17, gUpd_o18, gIsO_o, Option.bind_some, List.getElem?_cons_zero, List.getElem?_cons_succ, List.length_cons, List.length_nil, List.set_cons_zero, List.set_cons_succ, gCat_nil, gCat_int, gCat_ref, if_pos, if_neg, Option.toList_some, Option.toList_none, List.cons_append, List.nil_append, B_nar, J1_nar, J0_nar, if_true, if_false, rd_wr_same, rd_wr_ne, true_and, and_true, B_0, B_1, not_true_eq_false, not_false_eq_true, i0, c1, c2]
  rw [B_pos h2] at c2
  by_cases h3 : -1 ≤ k ∧ k ≤ 3
  rotate_left
  · rw [B_neg h3] at c3
    simp only [if_neg (show ¬ ordI K y n k from fun z => h3 z.2.2)]
    refine ⟨w, fun _ => 0, ?_, hX, fun _ _ => rfl, rfl⟩
    simp (disch := first | omega | exact Nat.le_of_ble_eq_true rfl) only [e90_0, e90_1, e90_2, e90_5, e90_8, e90_9, e90_10, e90_12, e90_15, e90_18, e90_19, e90_20, e90_21, e90_24, e90_27, e90_28, e90_29, e90_30, e90_33, e90_34, e90_37, e90_38, e90_39, e90_42, e90_43, e90_46, e90_47, e90_50, e90_51, e90_52, e90_55, e90_56, e90_57, e90_60, e90_61, e90_64, e90_67, e90_68, e90_69, e90_70, e90_73, e90_74, e90_77, e90_80, e90_81, e90_82, e90_83, e90_86, e90_89, e90_92, e90_93, e90_96, e90_99, e90_100, e90_103, e90_106, e90_108, J_add, J_sub, J_mul, J_neg, J_lt, J_le, J_eq, gArr_J, gAst_J, gSiz_J, gFld_o, gUpd_o0, gUpd_o1, gUpd_o2, gUpd_o3, gUpd_o4, gUpd_o5, gUpd_o6, gUpd_o7, gUpd_o8, gUpd_o9, gUpd_o10, gUpd_o11, gUpd_o12, gUpd_o13, gUpd_o14, gUpd_o15, gUpd_o16, gUpd_o17, gUpd_o18, gIsO_o, Option.bind_some, List.getElem?_cons_zero, List.getElem?_cons_succ, List.length_cons, List.length_nil, List.set_cons_zero, List.set_cons_succ, gCat_nil, gCat_int, gCat_ref, if_pos, if_neg, Option.toList_some, Option.toList_none, List.cons_append, List.nil_append, B_nar, J1_nar, J0_nar, if_true, if_false, rd_wr_same, rd_wr_ne, true_and, and_true, B_0, B_1, not_true_eq_false, not_false_eq_true, i0, c1, c2, c3]
  rw [B_pos h3] at c3
  simp only [if_pos (show ordI K y n k from ⟨h1, h2, h3⟩)]
  obtain ⟨b, se, li, R, Ts, hR⟩ := id iW
  obtain ⟨w1, g1, g2, g3, g4⟩ := s36 (nat := nat) (d := d + 21) hR iS inS (by omega) (y := y) (n := n)
  have F1 : ∀ z, (z < 71 ∨ 91 ≤ z) → rd w1 z = rd w z := fun z hz => g3 z (by omega)
  have hh : (aoff S) 0 0 = S 0 0 := by simp [aoff]
  obtain ⟨w2, R', Ts', k1, k2, k3, k4, k5, k6⟩ := s37 (nat := nat) (d := d + 11) (x := 71) (m := p) (K := K) (se := y) (li := n) hK (by omega) (by omega) (by omega) 3 w1 0 0 (0, 0, b.2.2) R _ rfl (by omega) (by omega) g2 (isMe_fr iK (fun z z1 z2 => F1 z (by omega))) ⟨⟨by show (0 : Int) ≤ 0; decide, by show (0 : Int) ≤ 3; decide⟩, by show (0 : Int) ≤ 0; decide, by show (0 : Int) < 1000; decide⟩ (by show vS K (aoff S); exact vS_aoff hS) (by show (aoff S) 0 0 + (n - 0) < 1000000000; rw [hh]; omega)
  have eR : dfs K y n 3 0 0 ((fun i => if i = 0 then aoff S else Ts i) (0 : Int).toNat) R (0, 0, b.2.2) = ordR K S y n b.2.2 := dfs_congr 3 0 0 (aoff S) R (fun _ => 0) (0, 0, b.2.2) (fun i i1 i2 => absurd i2 (by omega))
  rw [eR] at k2
  have F : ∀ z, (z < 71 ∨ 91 ≤ z) → rd w2 z = rd w z := fun z hz => (k5 z (by omega)).trans (F1 z hz)
  have hO : bOr (ordR K S y n b.2.2) := dfs_ok (by omega) 3 0 0 _ _ _ rfl (by omega) (by omega) ⟨⟨by show (0 : Int) ≤ 0; decide, by show (0 : Int) ≤ 3; decide⟩, by show (0 : Int) ≤ 0; decide, by show (0 : Int) < 1000; decide⟩
  refine ⟨w2, b.2.2, ?_, ⟨(by rw [F 0 (by omega)]; exact i0), (by rw [F 1 (by omega)]; exact iT), (cR_fr iR (fun z z1 z2 => F z (by omega))), (isMe_fr iK (fun z z1 z2 => F z (by omega))), (cQ_fr iQ (fun z z1 z2 => F z (by omega))), (isSt_fr iS (fun z z1 z2 => F z (by omega))), inS, (cTr_fr iTr (fun z z1 z2 => F z (by omega))), (isSh_fr iP (fun z z1 z2 => F z (by omega))), (isSh_fr iKp (fun z z1 z2 => F z (by omega))), (cE_fr iE (fun z z1 z2 => F z (by omega))), (cH_fr iH (fun z z1 z2 => F z (by omega))), ⟨_, _, _, R', Ts', k2⟩, (cD_fr iD (fun z z1 z2 => F z (by omega))), hpq⟩, fun z hz => F z (by omega), k6.trans g4⟩
  generalize ordR K S y n b.2.2 = r at *
  have hO1 := hO.1
  have hO2 := hO.2
  have c4 : ∀ i, (0 ≤ i ∧ i < 3) → gC nat (d + 24) 117 [.ref 72, .int (J i)] w2 = some (some (.int (J (r.2.2 i))), w2) := fun i hi => s117 (d := d + 23) k2.2.2.1 (by omega) (by omega) (by omega)
  have f1 : rd w1 0 = _ := (F1 0 (by omega)).trans i0
  have f2 : rd w2 0 = _ := (F 0 (by omega)).trans i0
  have f3 := g2.2.1
  have f4 := k2.2.1
  have f5 : rd w1 p = _ := (F1 p (by omega)).trans iK.2.1
  have k1' : gC nat (d + 24) 37 [.ref 71, .ref p, .int (J 0), .int (J 0)] w1 = some (none, w2) := k1
  by_cases h4 : k = -1
  · rw [if_pos h4]
    simp (disch := first | omega | exact Nat.le_of_ble_eq_true rfl) only [e90_0, e90_1, e90_2, e90_5, e90_8, e90_9, e90_10, e90_12, e90_15, e90_18, e90_19, e90_20, e90_21, e90_24, e90_27, e90_28, e90_29, e90_30, e90_33, e90_34, e90_37, e90_38, e90_39, e90_42, e90_43, e90_46, e90_47, e90_50, e90_51, e90_52, e90_55, e90_56, e90_57, e90_60, e90_61, e90_64, e90_67, e90_68, e90_69, e90_70, e90_73, e90_74, e90_77, e90_80, e90_81, e90_82, e90_83, e90_86, e90_89, e90_92, e90_93, e90_96, e90_99, e90_100, e90_103, e90_106, e90_108, J_add, J_sub, J_mul, J_neg, J_lt, J_le, J_eq, gArr_J, gAst_J, gSiz_J, gFld_o, gUpd_o0, gUpd_o1, gUpd_o2, gUpd_o3, gUpd_o4, gUpd_o5, gUpd_o6, gUpd_o7, gUpd_o8, gUpd_o9, gUpd_o10, gUpd_o11, gUpd_o12, gUpd_o13, gUpd_o14, gUpd_o15, gUpd_o16, gUpd_o17, gUpd_o18, gIsO_o, Option.bind_some, List.getElem?_cons_zero, List.getElem?_cons_succ, List.length_cons, List.length_nil, List.set_cons_zero, List.set_cons_succ, gCat_nil, gCat_int, gCat_ref, if_pos, if_neg, Option.toList_some, Option.toList_none, List.cons_append, List.nil_append, B_nar, J1_nar, J0_nar, if_true, if_false, rd_wr_same, rd_wr_ne, true_and, and_true, B_0, B_1, not_true_eq_false, not_false_eq_true, i0, hR.2.1, iS.2.1, c1, c2, c3, g1, k1', f1, f2, f3, f4, f5]
  · rw [if_neg h4]
    by_cases h5 : k = 3
    · rw [if_pos h5]
      simp (disch := first | omega | exact Nat.le_of_ble_eq_true rfl) only [e90_0, e90_1, e90_2, e90_5, e90_8, e90_9, e90_10, e90_12, e90_15, e90_18, e90_19, e90_20, e90_21, e90_24, e90_27, e90_28, e90_29, e90_30, e90_33, e90_34, e90_37, e90_38, e90_39, e90_42, e90_43, e90_46, e90_47, e90_50, e90_51, e90_52, e90_55, e90_56, e90_57, e90_60, e90_61, e90_64, e90_67, e90_68, e90_69, e90_70, e90_73, e90_74, e90_77, e90_80, e90_81, e90_82, e90_83, e90_86, e90_89, e90_92, e90_93, e90_96, e90_99, e90_100, e90_103, e90_106, e90_108, J_add, J_sub, J_mul, J_neg, J_lt, J_le, J_eq, gArr_J, gAst_J, gSiz_J, gFld_o, gUpd_o0, gUpd_o1, gUpd_o2, gUpd_o3, gUpd_o4, gUpd_o5, gUpd_o6, gUpd_o7, gUpd_o8, gUpd_o9, gUpd_o10, gUpd_o11, gUpd_o12, gUpd_o13, gUpd_o14, gUpd_o15, gUpd_o16, gUpd_o17, gUpd_o18, gIsO_o, Option.bind_some, List.getElem?_cons_zero, List.getElem?_cons_succ, List.length_cons, List.length_nil, List.set_cons_zero, List.set_cons_succ, gCat_nil, gCat_int, gCat_ref, if_pos, if_neg, Option.toList_some, Option.toList_none, List.cons_append, List.nil_append, B_nar, J1_nar, J0_nar, if_true, if_false, rd_wr_same, rd_wr_ne, true_and, and_true, B_0, B_1, not_true_eq_false, not_false_eq_true, i0, hR.2.1, iS.2.1, c1, c2, c3, g1, k1', f1, f2, f3, f4, f5]
    · rw [if_neg h5]
      by_cases h6 : k < r.1
      · rw [if_pos h6]
        simp (disch := first | omega | exact Nat.le_of_ble_eq_true rfl) only [e90_0, e90_1, e90_2, e90_5, e90_8, e90_9, e90_10, e90_12, e90_15, e90_18, e90_19, e90_20, e90_21, e90_24, e90_27, e90_28, e90_29, e90_30, e90_33, e90_34, e90_37, e90_38, e90_39, e90_42, e90_43, e90_46, e90_47, e90_50, e90_51, e90_52, e90_55, e90_56, e90_57, e90_60, e90_61, e90_64, e90_67, e90_68, e90_69, e90_70, e90_73, e90_74, e90_77, e90_80, e90_81, e90_82, e90_83, e90_86, e90_89, e90_92, e90_93, e90_96, e90_99, e90_100, e90_103, e90_106, e90_108, J_add, J_sub, J_mul, J_neg, J_lt, J_le, J_eq, gArr_J, gAst_J, gSiz_J, gFld_o, gUpd_o0, gUpd_o1, gUpd_o2, gUpd_o3, gUpd_o4, gUpd_o5, gUpd_o6, gUpd_o7, gUpd_o8, gUpd_o9, gUpd_o10, gUpd_o11, gUpd_o12, gUpd_o13, gUpd_o14, gUpd_o15, gUpd_o16, gUpd_o17, gUpd_o18, gIsO_o, Option.bind_some, List.getElem?_cons_zero, List.getElem?_cons_succ, List.length_cons, List.length_nil, List.set_cons_zero, List.set_cons_succ, gCat_nil, gCat_int, gCat_ref, if_pos, if_neg, Option.toList_some, Option.toList_none, List.cons_append, List.nil_append, B_nar, J1_nar, J0_nar, if_true, if_false, rd_wr_same, rd_wr_ne, true_and, and_true, B_0, B_1, not_true_eq_false, not_false_eq_true, i0, hR.2.1, iS.2.1, c1, c2, c3, c4, g1, k1', f1, f2, f3, f4, f5]
      · rw [if_neg h6]
        simp (disch := first | omega | exact Nat.le_of_ble_eq_true rfl) only [e90_0, e90_1, e90_2, e90_5, e90_8, e90_9, e90_10, e90_12, e90_15, e90_18, e90_19, e90_20, e90_21, e90_24, e90_27, e90_28, e90_29, e90_30, e90_33, e90_34, e90_37, e90_38, e90_39, e90_42, e90_43, e90_46, e90_47, e90_50, e90_51, e90_52, e90_55, e90_56, e90_57, e90_60, e90_61, e90_64, e90_67, e90_68, e90_69, e90_70, e90_73, e90_74, e90_77, e90_80, e90_81, e90_82, e90_83, e90_86, e90_89, e90_92, e90_93, e90_96, e90_99, e90_100, e90_103, e90_106, e90_108, J_add, J_sub, J_mul, J_neg, J_lt, J_le, J_eq, gArr_J, gAst_J, gSiz_J, gFld_o, gUpd_o0, gUpd_o1, gUpd_o2, gUpd_o3, gUpd_o4, gUpd_o5, gUpd_o6, gUpd_o7, gUpd_o8, gUpd_o9, gUpd_o10, gUpd_o11, gUpd_o12, gUpd_o13, gUpd_o14, gUpd_o15, gUpd_o16, gUpd_o17, gUpd_o18, gIsO_o, Option.bind_some, List.getElem?_cons_zero, List.getElem?_cons_succ, List.length_cons, List.length_nil, List.set_cons_zero, List.set_cons_succ, gCat_nil, gCat_int, gCat_ref, if_pos, if_neg, Option.toList_some, Option.toList_none, List.cons_append, List.nil_append, B_nar, J1_nar, J0_nar, if_true, if_false, rd_wr_same, rd_wr_ne, true_and, and_true, B_0, B_1, not_true_eq_false, not_false_eq_true, i0, hR.2.1, iS.2.1, c1, c2, c3, g1, k1', f1, f2, f3, f4, f5]

abbrev deaI (K : Lay) (n y : Int) : Prop := (1 ≤ n ∧ n ≤ 24) ∧ (y = -1 ∨ okD K y)
def deaR (K S : Lay) (n : Int) (B0 : Int → Int) : Int × (Int → Int) := dl K (cb K S) (fun g => clos K S n.toNat g (2 ^ (K 0 2).toNat)) (K 0 2).toNat 0 (pop (cb K S)) (fun _ => 0) (fun _ => 0) (-1, B0)
def aDea (K S : Lay) (n y : Int) (B0 : Int → Int) : Int := if deaI K n y then (if y = -1 then (deaR K S n B0).1 else (deaR K S n B0).2 y) else -1

theorem x91 {nat : gNat} {d : Nat} {w : gWd} {p q : Nat} {X K S : Lay} {PT KT : Nat → Lay} (hX : isX w p q X K S PT KT) (hK : vK K) (hS : vS K S) (hH : 0 ≤ S 0 0 ∧ S 0 0 < 1000000) {n y : Int} (h_n : -2147483648 ≤ n ∧ n < 2147483648) (h_y : -2147483648 ≤ y ∧ y < 2147483648)  : ∃ w' B0, gC nat (d + 25) 91 [.ref 0, .int (J n), .int (J y)] w = some (some (.int (J (aDea K S n y B0))), w') ∧ isX w' p q X K S PT KT ∧ (∀ z, 96 ≤ z → rd w' z = rd w z) ∧ w'.2 = w.2 := by
  rw [en91]
  obtain ⟨i0, iT, iR, iK, iQ, iS, inS, iTr, iP, iKp, iE, iH, iW, iD, hpq⟩ := id hX
  have c1 := s106 (nat := nat) (d := d + 22) (w := w) i0 iK hK (g := y) h_y
  have c2 := s113 (nat := nat) (d := d + 23) (w := w) (x := n) (l := 1) (h := 24) (by omega) (by omega) (by omega)
  have hb := gSTR_big
  unfold aDea
  by_cases h2 : 1 ≤ n ∧ n ≤ 24
  rotate_left
  · rw [B_neg h2] at c2
    simp only [if_neg (show ¬ deaI K n y from fun z => h2 z.1)]
    refine ⟨w, fun _ => 0, ?_, hX, fun _ _ => rfl, rfl⟩
    simp (disch := first | omega | exact Nat.le_of_ble_eq_true rfl) only [e91_0, e91_1, e91_2, e91_4, e91_7, e91_10, e91_11, e91_12, e91_15, e91_16, e91_17, e91_20, e91_23, e91_24, e91_25, e91_26, e91_29, e91_30, e91_33, e91_34, e91_37, e91_38, e91_41, e91_42, e91_45, e91_46, e91_47, e91_50, e91_51, e91_54, e91_57, e91_60, e91_61, e91_64, e91_67, e91_68, e91_71, J_add, J_sub, J_mul, J_neg, J_lt, J_le, J_eq, gArr_J, gAst_J, gSiz_J, gFld_o, gUpd_o0, gUpd_o1, gUpd_o2, gUpd_o3, gUpd_o4, gUpd_o5, gUpd_o6, gUpd_o7, gUpd_o8, gUpd_o9, gUpd_o10, gUpd_o11, gUpd_o12, gUpd_o13, gUpd_o14, gUpd_o15, gUpd_o16, gUpd_o17, gUpd_o18, gIsO_o, Option.bind_some, List.getElem?_cons_zero, List.getElem?_cons_succ, List.length_cons, List.length_nil, List.set_cons_zero, List.set_cons_succ, gCat_nil, gCat_int, gCat_ref, if_pos, if_neg, Option.toList_some, Option.toList_none, List.cons_append, List.nil_append, B_nar, J1_nar, J0_nar, if_true, if_false, rd_wr_same, rd_wr_ne, true_and, and_true, B_0, B_1, not_true_eq_false, not_false_eq_true, i0, c2]
  rw [B_pos h2] at c2
  by_cases h3 : y = -1 ∨ okD K y
  rotate_left
  · rw [B_neg (fun z => h3 (Or.inr z))] at c1
    have h4 : ¬ y = -1 := fun z => h3 (Or.inl z)
    simp only [if_neg (show ¬ deaI K n y from fun z => h3 z.2)]
    refine ⟨w, fun _ => 0, ?_, hX, fun _ _ => rfl, rfl⟩
    simp (disch := first | omega | exact Nat.le_of_ble_eq_true rfl) only [e91_0, e91_1, e91_2, e91_4, e91_7, e91_10, e91_11, e91_12, e91_15, e91_16, e91_17, e91_20, e91_23, e91_24, e91_25, e91_26, e91_29, e91_30, e91_33, e91_34, e91_37, e91_38, e91_41, e91_42, e91_45, e91_46, e91_47, e91_50, e91_51, e91_54, e91_57, e91_60, e91_61, e91_64, e91_67, e91_68, e91_71, J_add, J_sub, J_mul, J_neg, J_lt, J_le, J_eq, gArr_J, gAst_J, gSiz_J, gFld_o, gUpd_o0, gUpd_o1, gUpd_o2, gUpd_o3, gUpd_o4, gUpd_o5, gUpd_o6, gUpd_o7, gUpd_o8, gUpd_o9, gUpd_o10, gUpd_o11, gUpd_o12, gUpd_o13, gUpd_o14, gUpd_o15, gUpd_o16, gUpd_o17, gUpd_o18, gIsO_o, Option.bind_some, List.getElem?_cons_zero, List.getElem?_cons_succ, List.length_cons, List.length_nil, List.set_cons_zero, List.set_cons_succ, gCat_nil, gCat_int, gCat_ref, if_pos, if_neg, Option.toList_some, Option.toList_none, List.cons_append, List.nil_append, B_nar, J1_nar, J0_nar, if_true, if_false, rd_wr_same, rd_wr_ne, true_and, and_true, B_0, B_1, not_true_eq_false, not_false_eq_true, i0, c1, c2]
  simp only [if_pos (show deaI K n y from ⟨h2, h3⟩)]
  obtain ⟨mo, A1, A2, C, L, e0, e1, e2, e3, e4, hC, hL⟩ := id iD
  obtain ⟨T, t1, t2⟩ := id iTr
  have k2 := hK.2.2.1
  obtain ⟨w', T', b1, B', G', C', L', g1, n1, g2, g3, g4, g5, g6, g7, g8, g9, g10, g11, g12, g13⟩ := s1 (nat := nat) (d := d + 8) (x := 91) (m := p) (a := 12) (t := 16) hK iK (by omega) (by omega) (by omega) iS t1 t2 (by omega) (by omega) (by omega) (by omega) hS inS (n := n.toNat) (by omega) (by omega) hC hL e0 e1 e2 e3 e4
  have F : ∀ z, ((z < 91 ∨ 95 < z) ∧ (z < 16 ∨ 19 < z)) → rd w' z = rd w z := fun z hz => g12 z (by omega) (by omega)
  have eb : b1 = deaR K S n A1 := g5
  rw [show ((n.toNat : Nat) : Int) = n by omega] at g1
  have hb1 : -10 ≤ b1.1 ∧ b1.1 < 100 := by
    have h8 : pop (cbs K S (K 0 1).toNat) ≤ 8 := popN_le _ 8
    rw [g5]
    exact dl_ok _ _ _ _ _ _ _ _ _ (by omega) (by omega) ⟨by show (-10 : Int) ≤ -1; decide, by show (-1 : Int) < 100; decide⟩
  refine ⟨w', A1, ?_, ⟨(by rw [F 0 (by omega)]; exact i0), (by rw [F 1 (by omega)]; exact iT), (cR_fr iR (fun z z1 z2 => F z (by omega))), (isMe_fr iK (fun z z1 z2 => F z (by omega))), (cQ_fr iQ (fun z z1 z2 => F z (by omega))), (isSt_fr iS (fun z z1 z2 => F z (by omega))), inS, ⟨T', g2, n1⟩, (isSh_fr iP (fun z z1 z2 => F z (by omega))), (isSh_fr iKp (fun z z1 z2 => F z (by omega))), (cE_fr iE (fun z z1 z2 => F z (by omega))), (cH_fr iH (fun z z1 z2 => F z (by omega))), (cW_fr iW (fun z z1 z2 => F z (by omega))), ⟨_, B', G', C', L', g6, g7, g8, g9, g10, g3, g4⟩, hpq⟩, fun z hz => F z (by omega), g13⟩
  rw [← eb]
  have f0 : rd w' 0 = _ := (F 0 (by omega)).trans i0
  have g1' : gC nat (d + 24) 1 [.ref 91, .ref p, .ref 12, .ref 16, .int (J n)] w = some (none, w') := g1
  by_cases h4 : y = -1
  · rw [if_pos h4]
    simp (disch := first | omega | exact Nat.le_of_ble_eq_true rfl) only [e91_0, e91_1, e91_2, e91_4, e91_7, e91_10, e91_11, e91_12, e91_15, e91_16, e91_17, e91_20, e91_23, e91_24, e91_25, e91_26, e91_29, e91_30, e91_33, e91_34, e91_37, e91_38, e91_41, e91_42, e91_45, e91_46, e91_47, e91_50, e91_51, e91_54, e91_57, e91_60, e91_61, e91_64, e91_67, e91_68, e91_71, J_add, J_sub, J_mul, J_neg, J_lt, J_le, J_eq, gArr_J, gAst_J, gSiz_J, gFld_o, gUpd_o0, gUpd_o1, gUpd_o2, gUpd_o3, gUpd_o4, gUpd_o5, gUpd_o6, gUpd_o7, gUpd_o8, gUpd_o9, gUpd_o10, gUpd_o11, gUpd_o12, gUpd_o13, gUpd_o14, gUpd_o15, gUpd_o16, gUpd_o17, gUpd_o18, gIsO_o, Option.bind_some, List.getElem?_cons_zero, List.getElem?_cons_succ, List.length_cons, List.length_nil, List.set_cons_zero, List.set_cons_succ, gCat_nil, gCat_int, gCat_ref, if_pos, if_neg, Option.toList_some, Option.toList_none, List.cons_append, List.nil_append, B_nar, J1_nar, J0_nar, if_true, if_false, rd_wr_same, rd_wr_ne, true_and, and_true, B_0, B_1, not_true_eq_false, not_false_eq_true, i0, c2, e0, iK.2.1, g1', f0, g6]
  · rw [if_neg h4]
    have h5 := h3.resolve_left h4
    rw [B_pos h5] at c1
    have c4 := s117 (nat := nat) (d := d + 23) (w := w') (a := 92) (n := 4) (f := B') (i := y) g7 (by omega) (by omega) (by omega)
    rw [g11 y (by omega) (by omega)] at c4
    simp (disch := first | omega | exact Nat.le_of_ble_eq_true rfl) only [e91_0, e91_1, e91_2, e91_4, e91_7, e91_10, e91_11, e91_12, e91_15, e91_16, e91_17, e91_20, e91_23, e91_24, e91_25, e91_26, e91_29, e91_30, e91_33, e91_34, e91_37, e91_38, e91_41, e91_42, e91_45, e91_46, e91_47, e91_50, e91_51, e91_54, e91_57, e91_60, e91_61, e91_64, e91_67, e91_68, e91_71, J_add, J_sub, J_mul, J_neg, J_lt, J_le, J_eq, gArr_J, gAst_J, gSiz_J, gFld_o, gUpd_o0, gUpd_o1, gUpd_o2, gUpd_o3, gUpd_o4, gUpd_o5, gUpd_o6, gUpd_o7, gUpd_o8, gUpd_o9, gUpd_o10, gUpd_o11, gUpd_o12, gUpd_o13, gUpd_o14, gUpd_o15, gUpd_o16, gUpd_o17, gUpd_o18, gIsO_o, Option.bind_some, List.getElem?_cons_zero, List.getElem?_cons_succ, List.length_cons, List.length_nil, List.set_cons_zero, List.set_cons_succ, gCat_nil, gCat_int, gCat_ref, if_pos, if_neg, Option.toList_some, Option.toList_none, List.cons_append, List.nil_append, B_nar, J1_nar, J0_nar, if_true, if_false, rd_wr_same, rd_wr_ne, true_and, and_true, B_0, B_1, not_true_eq_false, not_false_eq_true, i0, c1, c2, c4, e0, iK.2.1, g1', f0, g6]
