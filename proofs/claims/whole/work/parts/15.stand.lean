theorem rdP0 {w : gWd} {a : Nat} {S : Lay} : rd (putS w a S) a = oC 7 [.int (J (S 0 0)), .ref (a + 1), .ref (a + 2), .ref (a + 3)] := by
  unfold putS
  rw [rd_wr_ne (by omega), rd_wr_ne (by omega), rd_wr_ne (by omega), rd_wr_same]
theorem rdP1 {w : gWd} {a : Nat} {S : Lay} : rd (putS w a S) (a + 1) = iC 8 (eI (S 1)) := by
  unfold putS
  rw [rd_wr_ne (by omega), rd_wr_ne (by omega), rd_wr_same]
theorem rdP2 {w : gWd} {a : Nat} {S : Lay} : rd (putS w a S) (a + 2) = iC 4 (eI (S 2)) := by
  unfold putS
  rw [rd_wr_ne (by omega), rd_wr_same]
theorem rdP3 {w : gWd} {a : Nat} {S : Lay} : rd (putS w a S) (a + 3) = iC 4 (eI (S 3)) := by
  unfold putS
  rw [rd_wr_same]
theorem wP0 {w : gWd} {a : Nat} {S : Lay} {v : Int} (h : a + 3 < gSTR) : wr (putS w a S) a (oC 7 [.int (J v), .ref (a + 1), .ref (a + 2), .ref (a + 3)]) = putS w a (sset S 0 0 v) := by rw [putS_0 (isSt_putS h), putS_putS]
theorem wP1 {w : gWd} {a : Nat} {S : Lay} {i v : Int} (h : a + 3 < gSTR) : wr (putS w a S) (a + 1) (iC 8 (eI (fset (S 1) i v))) = putS w a (sset S 1 i v) := by rw [putS_1 (isSt_putS h), putS_putS]
theorem wP2 {w : gWd} {a : Nat} {S : Lay} {i v : Int} (h : a + 3 < gSTR) : wr (putS w a S) (a + 2) (iC 4 (eI (fset (S 2) i v))) = putS w a (sset S 2 i v) := by rw [putS_2 (isSt_putS h), putS_putS]
theorem wP3 {w : gWd} {a : Nat} {S : Lay} {i v : Int} (h : a + 3 < gSTR) : wr (putS w a S) (a + 3) (iC 4 (eI (fset (S 3) i v))) = putS w a (sset S 3 i v) := by rw [putS_3 (isSt_putS h), putS_putS]
theorem putS_congr {w : gWd} {a : Nat} {S T : Lay} (h0 : S 0 0 = T 0 0) (h1 : ∀ i, 0 ≤ i → S 1 i = T 1 i) (h2 : ∀ i, 0 ≤ i → S 2 i = T 2 i) (h3 : ∀ i, 0 ≤ i → S 3 i = T 3 i) : putS w a S = putS w a T := by
  have e : ∀ f g : Int → Int, (∀ i, 0 ≤ i → f i = g i) → eI f = eI g := fun f g h => funext fun k => by unfold eI; rw [h k (by omega)]
  unfold putS
  rw [h0, e _ _ h1, e _ _ h2, e _ _ h3]

theorem s59 {nat : gNat} {d : Nat} {w : gWd} {a : Nat} {S : Lay} (ha : a + 3 < gSTR) {g : Int} (hg : 0 ≤ g ∧ g < 8) : gC nat (d + 2) 59 [.ref a, .int (J g)] (putS w a S) = some (some (.int (J (S 1 g))), putS w a S) := by
  rw [en59]
  have a1 : a + 1 < gSTR := by omega
  have a2 : a + 2 < gSTR := by omega
  simp (disch := first | exact rdP1 | assumption | omega) only [e59_0, e59_1, e59_4, e59_5, e59_8, J_add, J_sub, J_mul, J_neg, J_lt, J_le, J_eq, gArr_J, gAst_J, gSiz_J, gFld_o, gUpd_o0, gUpd_o1, gUpd_o2, gUpd_o3, gUpd_o4, gUpd_o5, gUpd_o6, gUpd_o7, gUpd_o8, gUpd_o9, gUpd_o10, gUpd_o11, gUpd_o12, gUpd_o13, gUpd_o14, gUpd_o15, gUpd_o16, gUpd_o17, gUpd_o18, gIsO_o, Option.bind_some, List.getElem?_cons_zero, List.getElem?_cons_succ, List.length_cons, List.length_nil, List.set_cons_zero, List.set_cons_succ, gCat_nil, gCat_int, gCat_ref, if_pos, if_neg, Option.toList_some, Option.toList_none, List.cons_append, List.nil_append, B_nar, J1_nar, J0_nar, if_true, if_false, rd_wr_same, rd_wr_ne, true_and, and_true, B_0, B_1, not_true_eq_false, not_false_eq_true, rdP0, rdP1, rdP2, rdP3, wP0, wP1, wP2, wP3, Nat.reduceAdd, s117 (n := 8) (f := S 1)]

theorem s60 {nat : gNat} {d : Nat} {w : gWd} {a : Nat} {S : Lay} (ha : a + 3 < gSTR) {g : Int} (hg : 0 ≤ g ∧ g < 4) : gC nat (d + 2) 60 [.ref a, .int (J g)] (putS w a S) = some (some (.int (J (S 3 g))), putS w a S) := by
  rw [en60]
  have a1 : a + 1 < gSTR := by omega
  have a2 : a + 2 < gSTR := by omega
  simp (disch := first | exact rdP3 | assumption | omega) only [e60_0, e60_1, e60_4, e60_5, e60_8, J_add, J_sub, J_mul, J_neg, J_lt, J_le, J_eq, gArr_J, gAst_J, gSiz_J, gFld_o, gUpd_o0, gUpd_o1, gUpd_o2, gUpd_o3, gUpd_o4, gUpd_o5, gUpd_o6, gUpd_o7, gUpd_o8, gUpd_o9, gUpd_o10, gUpd_o11, gUpd_o12, gUpd_o13, gUpd_o14, gUpd_o15, gUpd_o16, gUpd_o17, gUpd_o18, gIsO_o, Option.bind_some, List.getElem?_cons_zero, List.getElem?_cons_succ, List.length_cons, List.length_nil, List.set_cons_zero, List.set_cons_succ, gCat_nil, gCat_int, gCat_ref, if_pos, if_neg, Option.toList_some, Option.toList_none, List.cons_append, List.nil_append, B_nar, J1_nar, J0_nar, if_true, if_false, rd_wr_same, rd_wr_ne, true_and, and_true, B_0, B_1, not_true_eq_false, not_false_eq_true, rdP0, rdP1, rdP2, rdP3, wP0, wP1, wP2, wP3, Nat.reduceAdd, s117 (n := 4) (f := S 3)]

theorem s61 {nat : gNat} {d : Nat} {w : gWd} {a : Nat} {S : Lay} (ha : a + 3 < gSTR) {g : Int} (hg : 0 ≤ g ∧ g < 4) : gC nat (d + 2) 61 [.ref a, .int (J g)] (putS w a S) = some (some (.int (J (S 2 g))), putS w a S) := by
  rw [en61]
  have a1 : a + 1 < gSTR := by omega
  have a2 : a + 2 < gSTR := by omega
  simp (disch := first | exact rdP2 | assumption | omega) only [e61_0, e61_1, e61_4, e61_5, e61_8, J_add, J_sub, J_mul, J_neg, J_lt, J_le, J_eq, gArr_J, gAst_J, gSiz_J, gFld_o, gUpd_o0, gUpd_o1, gUpd_o2, gUpd_o3, gUpd_o4, gUpd_o5, gUpd_o6, gUpd_o7, gUpd_o8, gUpd_o9, gUpd_o10, gUpd_o11, gUpd_o12, gUpd_o13, gUpd_o14, gUpd_o15, gUpd_o16, gUpd_o17, gUpd_o18, gIsO_o, Option.bind_some, List.getElem?_cons_zero, List.getElem?_cons_succ, List.length_cons, List.length_nil, List.set_cons_zero, List.set_cons_succ, gCat_nil, gCat_int, gCat_ref, if_pos, if_neg, Option.toList_some, Option.toList_none, List.cons_append, List.nil_append, B_nar, J1_nar, J0_nar, if_true, if_false, rd_wr_same, rd_wr_ne, true_and, and_true, B_0, B_1, not_true_eq_false, not_false_eq_true, rdP0, rdP1, rdP2, rdP3, wP0, wP1, wP2, wP3, Nat.reduceAdd, s117 (n := 4) (f := S 2)]

theorem s62 {nat : gNat} {d : Nat} {w : gWd} {a m : Nat} {S K : Lay} (hm : isMe w m K) (hK : vK K) (ho : m + 3 < a ∨ a + 3 < m) (ha : a + 3 < gSTR) {g : Int} (hg : 0 ≤ g ∧ g < K 0 1) (hs : 0 ≤ S 1 g ∧ S 1 g ≤ 20) : gC nat (d + 2) 62 [.ref a, .ref m, .int (J g)] (putS w a S) = some (some (.int (B (K 1 (5 * g + 4) ≤ S 1 g))), putS w a S) := by
  rw [en62]
  have hm' : ∀ S, isMe (putS w a S) m K := fun S => isMe_putS ho hm
  obtain ⟨m0, m1, m2, m3, m4⟩ := id hm
  obtain ⟨k0, k1, k2, k3, k4, kg, kd, kr⟩ := id hK
  have a1 : a + 1 < gSTR := by omega
  have a2 : a + 2 < gSTR := by omega
  have hk := kg g hg.1 hg.2
  have c1 := s117 (nat := nat) (d := d) (w := putS w a S) (a := a + 1) (n := 8) (f := S 1) (i := g) rdP1 a1 (by omega) (by omega)
  have c2 := s18 (nat := nat) (d := d) (w := putS w a S) (m := m) (K := K) (g := g) (i := 4) (hm' S) (by omega) (by omega)
  have c3 : gIsO (rd (putS w a S) m) 2 = true := by rw [(hm' S).2.1]; exact gIsO_o
  by_cases h : K 1 (5 * g + 4) ≤ S 1 g
  · rw [B_pos h]
    simp (disch := first | exact hm' _ | assumption | omega | exact Nat.le_of_ble_eq_true rfl) only [e62_0, e62_1, e62_4, e62_5, e62_8, e62_9, e62_10, e62_11, e62_14, e62_17, e62_18, e62_21, e62_22, J_add, J_sub, J_mul, J_neg, J_lt, J_le, J_eq, gArr_J, gAst_J, gSiz_J, gFld_o, gUpd_o0, gUpd_o1, gUpd_o2, gUpd_o3, gUpd_o4, gUpd_o5, gUpd_o6, gUpd_o7, gUpd_o8, gUpd_o9, gUpd_o10, gUpd_o11, gUpd_o12, gUpd_o13, gUpd_o14, gUpd_o15, gUpd_o16, gUpd_o17, gUpd_o18, gIsO_o, Option.bind_some, List.getElem?_cons_zero, List.getElem?_cons_succ, List.length_cons, List.length_nil, List.set_cons_zero, List.set_cons_succ, gCat_nil, gCat_int, gCat_ref, if_pos, if_neg, Option.toList_some, Option.toList_none, List.cons_append, List.nil_append, B_nar, J1_nar, J0_nar, if_true, if_false, rd_wr_same, rd_wr_ne, true_and, and_true, B_0, B_1, not_true_eq_false, not_false_eq_true, rdP0, rdP1, rdP2, rdP3, wP0, wP1, wP2, wP3, Nat.reduceAdd, c1, c2, c3]
  · rw [B_neg h]
    simp (disch := first | exact hm' _ | assumption | omega | exact Nat.le_of_ble_eq_true rfl) only [e62_0, e62_1, e62_4, e62_5, e62_8, e62_9, e62_10, e62_11, e62_14, e62_17, e62_18, e62_21, e62_22, J_add, J_sub, J_mul, J_neg, J_lt, J_le, J_eq, gArr_J, gAst_J, gSiz_J, gFld_o, gUpd_o0, gUpd_o1, gUpd_o2, gUpd_o3, gUpd_o4, gUpd_o5, gUpd_o6, gUpd_o7, gUpd_o8, gUpd_o9, gUpd_o10, gUpd_o11, gUpd_o12, gUpd_o13, gUpd_o14, gUpd_o15, gUpd_o16, gUpd_o17, gUpd_o18, gIsO_o, Option.bind_some, List.getElem?_cons_zero, List.getElem?_cons_succ, List.length_cons, List.length_nil, List.set_cons_zero, List.set_cons_succ, gCat_nil, gCat_int, gCat_ref, if_pos, if_neg, Option.toList_some, Option.toList_none, List.cons_append, List.nil_append, B_nar, J1_nar, J0_nar, if_true, if_false, rd_wr_same, rd_wr_ne, true_and, and_true, B_0, B_1, not_true_eq_false, not_false_eq_true, rdP0, rdP1, rdP2, rdP3, wP0, wP1, wP2, wP3, Nat.reduceAdd, c1, c2, c3]

theorem s66 {nat : gNat} {d : Nat} {w : gWd} {a : Nat} {S : Lay} (ha : a + 3 < gSTR) {x g : Int} (hx : 0 ≤ x ∧ x < 4) : gC nat (d + 2) 66 [.ref a, .int (J x), .int (J g)] (putS w a S) = some (none, putS w a (sset S 2 x g)) := by
  rw [en66]
  have a1 : a + 1 < gSTR := by omega
  have a2 : a + 2 < gSTR := by omega
  simp (disch := first | exact rdP2 | assumption | omega) only [e66_0, e66_1, e66_4, e66_5, e66_6, e66_9, J_add, J_sub, J_mul, J_neg, J_lt, J_le, J_eq, gArr_J, gAst_J, gSiz_J, gFld_o, gUpd_o0, gUpd_o1, gUpd_o2, gUpd_o3, gUpd_o4, gUpd_o5, gUpd_o6, gUpd_o7, gUpd_o8, gUpd_o9, gUpd_o10, gUpd_o11, gUpd_o12, gUpd_o13, gUpd_o14, gUpd_o15, gUpd_o16, gUpd_o17, gUpd_o18, gIsO_o, Option.bind_some, List.getElem?_cons_zero, List.getElem?_cons_succ, List.length_cons, List.length_nil, List.set_cons_zero, List.set_cons_succ, gCat_nil, gCat_int, gCat_ref, if_pos, if_neg, Option.toList_some, Option.toList_none, List.cons_append, List.nil_append, B_nar, J1_nar, J0_nar, if_true, if_false, rd_wr_same, rd_wr_ne, true_and, and_true, B_0, B_1, not_true_eq_false, not_false_eq_true, rdP0, rdP1, rdP2, rdP3, wP0, wP1, wP2, wP3, Nat.reduceAdd, s118 (n := 4) (f := S 2)]

theorem s68 {nat : gNat} {d : Nat} {w : gWd} {a : Nat} {S : Lay} (ha : a + 3 < gSTR) {g : Int} (hg : 0 ≤ g ∧ g < 8) : gC nat (d + 2) 68 [.ref a, .int (J g)] (putS w a S) = some (none, putS w a (sset S 1 g 0)) := by
  rw [en68]
  have a1 : a + 1 < gSTR := by omega
  have a2 : a + 2 < gSTR := by omega
  simp (disch := first | exact rdP1 | assumption | omega) only [e68_0, e68_1, e68_4, e68_5, e68_6, e68_9, J_add, J_sub, J_mul, J_neg, J_lt, J_le, J_eq, gArr_J, gAst_J, gSiz_J, gFld_o, gUpd_o0, gUpd_o1, gUpd_o2, gUpd_o3, gUpd_o4, gUpd_o5, gUpd_o6, gUpd_o7, gUpd_o8, gUpd_o9, gUpd_o10, gUpd_o11, gUpd_o12, gUpd_o13, gUpd_o14, gUpd_o15, gUpd_o16, gUpd_o17, gUpd_o18, gIsO_o, Option.bind_some, List.getElem?_cons_zero, List.getElem?_cons_succ, List.length_cons, List.length_nil, List.set_cons_zero, List.set_cons_succ, gCat_nil, gCat_int, gCat_ref, if_pos, if_neg, Option.toList_some, Option.toList_none, List.cons_append, List.nil_append, B_nar, J1_nar, J0_nar, if_true, if_false, rd_wr_same, rd_wr_ne, true_and, and_true, B_0, B_1, not_true_eq_false, not_false_eq_true, rdP0, rdP1, rdP2, rdP3, wP0, wP1, wP2, wP3, Nat.reduceAdd, s118 (n := 8) (f := S 1)]
