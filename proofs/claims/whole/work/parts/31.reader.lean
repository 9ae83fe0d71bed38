/-! a mere that is written -/
def putK (w : gWd) (m : Nat) (K : Lay) : gWd := wr (wr (wr (wr w m (oC 2 [.int (J (K 0 0)), .int (J (K 0 1)), .int (J (K 0 2)), .int (J (K 0 3)), .int (J (K 0 4)), .ref (m + 1), .ref (m + 2), .ref (m + 3)])) (m + 1) (iC 40 (eI (K 1)))) (m + 2) (iC 12 (eI (K 2)))) (m + 3) (iC 12 (eI (K 3)))
theorem rdK0 {w : gWd} {m : Nat} {K : Lay} : rd (putK w m K) m = oC 2 [.int (J (K 0 0)), .int (J (K 0 1)), .int (J (K 0 2)), .int (J (K 0 3)), .int (J (K 0 4)), .ref (m + 1), .ref (m + 2), .ref (m + 3)] := by
  unfold putK
  simp (disch := omega) only [rd_wr_ne, rd_wr_same]
theorem rdK1 {w : gWd} {m : Nat} {K : Lay} : rd (putK w m K) (m + 1) = iC 40 (eI (K 1)) := by
  unfold putK
  simp (disch := omega) only [rd_wr_ne, rd_wr_same]
theorem rdK2 {w : gWd} {m : Nat} {K : Lay} : rd (putK w m K) (m + 2) = iC 12 (eI (K 2)) := by
  unfold putK
  simp (disch := omega) only [rd_wr_ne, rd_wr_same]
theorem rdK3 {w : gWd} {m : Nat} {K : Lay} : rd (putK w m K) (m + 3) = iC 12 (eI (K 3)) := by
  unfold putK
  simp (disch := omega) only [rd_wr_ne, rd_wr_same]
theorem rdKn {w : gWd} {m b : Nat} {K : Lay} (h : b < m ∨ m + 3 < b) : rd (putK w m K) b = rd w b := by
  unfold putK
  simp (disch := omega) only [rd_wr_ne]
theorem putK_rd {w w2 : gWd} {m : Nat} {K : Lay} (hz : w2.2 = w.2) (h0 : rd w2 m = oC 2 [.int (J (K 0 0)), .int (J (K 0 1)), .int (J (K 0 2)), .int (J (K 0 3)), .int (J (K 0 4)), .ref (m + 1), .ref (m + 2), .ref (m + 3)]) (h1 : rd w2 (m + 1) = iC 40 (eI (K 1))) (h2 : rd w2 (m + 2) = iC 12 (eI (K 2))) (h3 : rd w2 (m + 3) = iC 12 (eI (K 3))) (hn : ∀ b, (b < m ∨ m + 3 < b) → rd w2 b = rd w b) : w2 = putK w m K := by
  refine Prod.ext (funext fun b => ?_) hz
  show rd w2 b = rd (putK w m K) b
  by_cases hb : b < m ∨ m + 3 < b
  · rw [hn b hb, rdKn hb]
  · have hx : b = m ∨ b = m + 1 ∨ b = m + 2 ∨ b = m + 3 := by omega
    rcases hx with rfl | rfl | rfl | rfl
    · rw [h0, rdK0]
    · rw [h1, rdK1]
    · rw [h2, rdK2]
    · rw [h3, rdK3]

theorem wK0_0 {w : gWd} {m : Nat} {K : Lay} {v : Int} : wr (putK w m K) m (oC 2 [.int (J v), .int (J (K 0 1)), .int (J (K 0 2)), .int (J (K 0 3)), .int (J (K 0 4)), .ref (m + 1), .ref (m + 2), .ref (m + 3)]) = putK w m (sset K 0 0 v) := putK_rd rfl (by rw [rd_wr_same]; simp [sset]) (by rw [rd_wr_ne (by omega), sset_row (by decide)]; exact rdK1) (by rw [rd_wr_ne (by omega), sset_row (by decide)]; exact rdK2) (by rw [rd_wr_ne (by omega), sset_row (by decide)]; exact rdK3) (fun b hb => by rw [rd_wr_ne (by omega), rdKn hb])
theorem wK0_1 {w : gWd} {m : Nat} {K : Lay} {v : Int} : wr (putK w m K) m (oC 2 [.int (J (K 0 0)), .int (J v), .int (J (K 0 2)), .int (J (K 0 3)), .int (J (K 0 4)), .ref (m + 1), .ref (m + 2), .ref (m + 3)]) = putK w m (sset K 0 1 v) := putK_rd rfl (by rw [rd_wr_same]; simp [sset]) (by rw [rd_wr_ne (by omega), sset_row (by decide)]; exact rdK1) (by rw [rd_wr_ne (by omega), sset_row (by decide)]; exact rdK2) (by rw [rd_wr_ne (by omega), sset_row (by decide)]; exact rdK3) (fun b hb => by rw [rd_wr_ne (by omega), rdKn hb])
theorem wK0_2 {w : gWd} {m : Nat} {K : Lay} {v : Int} : wr (putK w m K) m (oC 2 [.int (J (K 0 0)), .int (J (K 0 1)), .int (J v), .int (J (K 0 3)), .int (J (K 0 4)), .ref (m + 1), .ref (m + 2), .ref (m + 3)]) = putK w m (sset K 0 2 v) := putK_rd rfl (by rw [rd_wr_same]; simp [sset]) (by rw [rd_wr_ne (by omega), sset_row (by decide)]; exact rdK1) (by rw [rd_wr_ne (by omega), sset_row (by decide)]; exact rdK2) (by rw [rd_wr_ne (by omega), sset_row (by decide)]; exact rdK3) (fun b hb => by rw [rd_wr_ne (by omega), rdKn hb])
theorem wK0_3 {w : gWd} {m : Nat} {K : Lay} {v : Int} : wr (putK w m K) m (oC 2 [.int (J (K 0 0)), .int (J (K 0 1)), .int (J (K 0 2)), .int (J v), .int (J (K 0 4)), .ref (m + 1), .ref (m + 2), .ref (m + 3)]) = putK w m (sset K 0 3 v) := putK_rd rfl (by rw [rd_wr_same]; simp [sset]) (by rw [rd_wr_ne (by omega), sset_row (by decide)]; exact rdK1) (by rw [rd_wr_ne (by omega), sset_row (by decide)]; exact rdK2) (by rw [rd_wr_ne (by omega), sset_row (by decide)]; exact rdK3) (fun b hb => by rw [rd_wr_ne (by omega), rdKn hb])
theorem wK0_4 {w : gWd} {m : Nat} {K : Lay} {v : Int} : wr (putK w m K) m (oC 2 [.int (J (K 0 0)), .int (J (K 0 1)), .int (J (K 0 2)), .int (J (K 0 3)), .int (J v), .ref (m + 1), .ref (m + 2), .ref (m + 3)]) = putK w m (sset K 0 4 v) := putK_rd rfl (by rw [rd_wr_same]; simp [sset]) (by rw [rd_wr_ne (by omega), sset_row (by decide)]; exact rdK1) (by rw [rd_wr_ne (by omega), sset_row (by decide)]; exact rdK2) (by rw [rd_wr_ne (by omega), sset_row (by decide)]; exact rdK3) (fun b hb => by rw [rd_wr_ne (by omega), rdKn hb])
theorem wK0r_1 {w : gWd} {m : Nat} {K K2 : Lay} {v : Int} (h : K 0 = K2 0) : wr (putK w m K) m (oC 2 [.int (J (K2 0 0)), .int (J v), .int (J (K2 0 2)), .int (J (K2 0 3)), .int (J (K2 0 4)), .ref (m + 1), .ref (m + 2), .ref (m + 3)]) = putK w m (sset K 0 1 v) := by rw [← h]; exact wK0_1
theorem wK0r_2 {w : gWd} {m : Nat} {K K2 : Lay} {v : Int} (h : K 0 = K2 0) : wr (putK w m K) m (oC 2 [.int (J (K2 0 0)), .int (J (K2 0 1)), .int (J v), .int (J (K2 0 3)), .int (J (K2 0 4)), .ref (m + 1), .ref (m + 2), .ref (m + 3)]) = putK w m (sset K 0 2 v) := by rw [← h]; exact wK0_2
theorem wK0r_4 {w : gWd} {m : Nat} {K K2 : Lay} {v : Int} (h : K 0 = K2 0) : wr (putK w m K) m (oC 2 [.int (J (K2 0 0)), .int (J (K2 0 1)), .int (J (K2 0 2)), .int (J (K2 0 3)), .int (J v), .ref (m + 1), .ref (m + 2), .ref (m + 3)]) = putK w m (sset K 0 4 v) := by rw [← h]; exact wK0_4
theorem wK1 {w : gWd} {m : Nat} {K : Lay} {i v : Int} : wr (putK w m K) (m + 1) (iC 40 (eI (fset (K 1) i v))) = putK w m (sset K 1 i v) := putK_rd rfl (by rw [rd_wr_ne (by omega)]; simp only [sset_row (show (0 : Int) ≠ 1 by decide)]; exact rdK0) (by rw [rd_wr_same, sset_fset]) (by rw [rd_wr_ne (by omega), sset_row (by decide)]; exact rdK2) (by rw [rd_wr_ne (by omega), sset_row (by decide)]; exact rdK3) (fun b hb => by rw [rd_wr_ne (by omega), rdKn hb])
theorem wK2 {w : gWd} {m : Nat} {K : Lay} {i v : Int} : wr (putK w m K) (m + 2) (iC 12 (eI (fset (K 2) i v))) = putK w m (sset K 2 i v) := putK_rd rfl (by rw [rd_wr_ne (by omega)]; simp only [sset_row (show (0 : Int) ≠ 2 by decide)]; exact rdK0) (by rw [rd_wr_ne (by omega), sset_row (by decide)]; exact rdK1) (by rw [rd_wr_same, sset_fset]) (by rw [rd_wr_ne (by omega), sset_row (by decide)]; exact rdK3) (fun b hb => by rw [rd_wr_ne (by omega), rdKn hb])
theorem wK3 {w : gWd} {m : Nat} {K : Lay} {i v : Int} : wr (putK w m K) (m + 3) (iC 12 (eI (fset (K 3) i v))) = putK w m (sset K 3 i v) := putK_rd rfl (by rw [rd_wr_ne (by omega)]; simp only [sset_row (show (0 : Int) ≠ 3 by decide)]; exact rdK0) (by rw [rd_wr_ne (by omega), sset_row (by decide)]; exact rdK1) (by rw [rd_wr_ne (by omega), sset_row (by decide)]; exact rdK2) (by rw [rd_wr_same, sset_fset]) (fun b hb => by rw [rd_wr_ne (by omega), rdKn hb])
theorem isMe_putK {w : gWd} {m : Nat} {K : Lay} (h : m + 3 < gSTR) : isMe (putK w m K) m K := ⟨h, rdK0, rdK1, rdK2, rdK3⟩
theorem putK_self {w : gWd} {m : Nat} {K : Lay} (h : isMe w m K) : putK w m K = w := by
  obtain ⟨h0, h1, h2, h3, h4⟩ := h
  unfold putK
  rw [wr_self h1, wr_self h2, wr_self h3, wr_self h4]
def addG (K : Lay) (N : Int → Int) : Lay := sset (sset (sset (sset (sset (sset K 1 (K 0 1 * 5 + 0) (N 0)) 1 (K 0 1 * 5 + 1) (N 1)) 1 (K 0 1 * 5 + 2) (N 2)) 1 (K 0 1 * 5 + 3) (N 3)) 1 (K 0 1 * 5 + 4) (N 4)) 0 1 (K 0 1 + 1)
def addD (K : Lay) (N : Int → Int) : Lay := sset (sset (sset (sset K 2 (K 0 2 * 3 + 0) (N 0)) 2 (K 0 2 * 3 + 1) (N 1)) 2 (K 0 2 * 3 + 2) (N 2)) 0 2 (K 0 2 + 1)
def addR (K : Lay) (v : Int) : Lay := sset (sset K 3 (K 0 4) v) 0 4 (K 0 4 + 1)
def clrK (K : Lay) : Lay := sset (sset (sset (sset (sset K 0 0 4) 0 1 0) 0 2 0) 0 3 12) 0 4 0
theorem sset_o1 {K : Lay} {i v : Int} : (sset K 1 i v) 0 = K 0 := sset_row (by decide)
theorem sset_o2 {K : Lay} {i v : Int} : (sset K 2 i v) 0 = K 0 := sset_row (by decide)
theorem sset_o3 {K : Lay} {i v : Int} : (sset K 3 i v) 0 = K 0 := sset_row (by decide)

theorem s14 {nat : gNat} {d : Nat} {w : gWd} {m : Nat} {K : Lay} (hm : m + 3 < gSTR) : gC nat (d + 1) 14 [.ref m] (putK w m K) = some (none, putK w m (clrK K)) := by
  rw [en14]
  simp (disch := first | omega | exact Nat.le_of_ble_eq_true rfl) only [e14_0, e14_1, e14_2, e14_5, e14_6, e14_7, e14_10, e14_11, e14_12, e14_15, e14_16, e14_18, e14_21, e14_22, e14_23, e14_26, J_add, J_sub, J_mul, J_neg, J_lt, J_le, J_eq, gArr_J, gAst_J, gSiz_J, gFld_o, gUpd_o0, gUpd_o1, gUpd_o2, gUpd_o3, gUpd_o4, gUpd_o5, gUpd_o6, gUpd_o7, gUpd_o8, gUpd_o9, gUpd_o10, gUpd_o11, gUpd_o12, gUpd_o13, gUpd_o14, gUpd_o15, gUpd_o16, gUpd_o17, gUpd_o18, gIsO_o, Option.bind_some, List.getElem?_cons_zero, List.getElem?_cons_succ, List.length_cons, List.length_nil, List.set_cons_zero, List.set_cons_succ, gCat_nil, gCat_int, gCat_ref, if_pos, if_neg, Option.toList_some, Option.toList_none, List.cons_append, List.nil_append, B_nar, J1_nar, J0_nar, if_true, if_false, rd_wr_same, rd_wr_ne, true_and, and_true, B_0, B_1, not_true_eq_false, not_false_eq_true, rdK0, rdK1, rdK2, rdK3, wr_wr, wK1, wK2, wK3, sset_o1, sset_o2, sset_o3]
  congr 2
  exact putK_rd rfl (by rw [rd_wr_same]; simp [clrK, sset]) (by rw [rd_wr_ne (by omega)]; exact rdK1) (by rw [rd_wr_ne (by omega)]; exact rdK2) (by rw [rd_wr_ne (by omega)]; exact rdK3) (fun b hb => by rw [rd_wr_ne (by omega), rdKn hb])

theorem s15 {nat : gNat} {d : Nat} {w : gWd} {m n : Nat} {K : Lay} {N : Int → Int} (hm : m + 3 < gSTR) (hn : n < m ∨ m + 3 < n) (hq : n < gSTR) (hN : rd w n = iC 5 (eI N)) (h1 : 0 ≤ K 0 1 ∧ K 0 1 < 8) : gC nat (d + 2) 15 [.ref m, .ref n] (putK w m K) = some (none, putK w m (addG K N)) := by
  rw [en15]
  have m1 : m + 1 < gSTR := by omega
  have m2 : m + 2 < gSTR := by omega
  have c1 : ∀ (K : Lay) (i : Int), (0 ≤ i ∧ i < 5) → gC nat (d + 1) 117 [.ref n, .int (J i)] (putK w m K) = some (some (.int (J (N i))), putK w m K) := fun K i h => s117 (by rw [rdKn hn]; exact hN) hq (by omega) (by omega)
  have c2 : ∀ (K : Lay) (i v : Int), (0 ≤ i ∧ i < 40) → gC nat (d + 1) 118 [.ref (m + 1), .int (J i), .int (J v)] (putK w m K) = some (none, putK w m (sset K 1 i v)) := fun K i v h => by rw [s118 rdK1 (by omega) (by omega) (by omega), wK1]
  unfold addG
  simp (disch := first | omega | (simp only [sset_o1, sset_o2, sset_o3]; done) | exact Nat.le_of_ble_eq_true rfl) only [e15_0, e15_1, e15_2, e15_3, e15_4, e15_7, e15_8, e15_11, e15_12, e15_15, e15_16, e15_17, e15_18, e15_19, e15_20, e15_21, e15_24, e15_27, e15_30, e15_33, e15_34, e15_34i, e15_35, e15_38, e15_39, e15_40, e15_43, J_add, J_sub, J_mul, J_neg, J_lt, J_le, J_eq, gArr_J, gAst_J, gSiz_J, gFld_o, gUpd_o0, gUpd_o1, gUpd_o2, gUpd_o3, gUpd_o4, gUpd_o5, gUpd_o6, gUpd_o7, gUpd_o8, gUpd_o9, gUpd_o10, gUpd_o11, gUpd_o12, gUpd_o13, gUpd_o14, gUpd_o15, gUpd_o16, gUpd_o17, gUpd_o18, gIsO_o, Option.bind_some, List.getElem?_cons_zero, List.getElem?_cons_succ, List.length_cons, List.length_nil, List.set_cons_zero, List.set_cons_succ, gCat_nil, gCat_int, gCat_ref, if_pos, if_neg, Option.toList_some, Option.toList_none, List.cons_append, List.nil_append, B_nar, J1_nar, J0_nar, if_true, if_false, rd_wr_same, rd_wr_ne, true_and, and_true, B_0, B_1, not_true_eq_false, not_false_eq_true, rdK0, rdK1, rdK2, rdK3, wK0r_1, wK0r_2, wK0r_4, wK1, wK2, wK3, sset_o1, sset_o2, sset_o3, c1, c2, Int.reduceAdd]

theorem s16 {nat : gNat} {d : Nat} {w : gWd} {m n : Nat} {K : Lay} {N : Int → Int} (hm : m + 3 < gSTR) (hn : n < m ∨ m + 3 < n) (hq : n < gSTR) (hN : rd w n = iC 5 (eI N)) (h1 : 0 ≤ K 0 2 ∧ K 0 2 < 4) : gC nat (d + 2) 16 [.ref m, .ref n] (putK w m K) = some (none, putK w m (addD K N)) := by
  rw [en16]
  have m1 : m + 1 < gSTR := by omega
  have m2 : m + 2 < gSTR := by omega
  have c1 : ∀ (K : Lay) (i : Int), (0 ≤ i ∧ i < 5) → gC nat (d + 1) 117 [.ref n, .int (J i)] (putK w m K) = some (some (.int (J (N i))), putK w m K) := fun K i h => s117 (by rw [rdKn hn]; exact hN) hq (by omega) (by omega)
  have c2 : ∀ (K : Lay) (i v : Int), (0 ≤ i ∧ i < 12) → gC nat (d + 1) 118 [.ref (m + 2), .int (J i), .int (J v)] (putK w m K) = some (none, putK w m (sset K 2 i v)) := fun K i v h => by rw [s118 rdK2 (by omega) (by omega) (by omega), wK2]
  unfold addD
  simp (disch := first | omega | (simp only [sset_o1, sset_o2, sset_o3]; done) | exact Nat.le_of_ble_eq_true rfl) only [e16_0, e16_1, e16_2, e16_3, e16_4, e16_7, e16_8, e16_11, e16_12, e16_15, e16_16, e16_17, e16_18, e16_19, e16_20, e16_21, e16_24, e16_27, e16_30, e16_33, e16_34, e16_34i, e16_35, e16_38, e16_39, e16_40, e16_43, J_add, J_sub, J_mul, J_neg, J_lt, J_le, J_eq, gArr_J, gAst_J, gSiz_J, gFld_o, gUpd_o0, gUpd_o1, gUpd_o2, gUpd_o3, gUpd_o4, gUpd_o5, gUpd_o6, gUpd_o7, gUpd_o8, gUpd_o9, gUpd_o10, gUpd_o11, gUpd_o12, gUpd_o13, gUpd_o14, gUpd_o15, gUpd_o16, gUpd_o17, gUpd_o18, gIsO_o, Option.bind_some, List.getElem?_cons_zero, List.getElem?_cons_succ, List.length_cons, List.length_nil, List.set_cons_zero, List.set_cons_succ, gCat_nil, gCat_int, gCat_ref, if_pos, if_neg, Option.toList_some, Option.toList_none, List.cons_append, List.nil_append, B_nar, J1_nar, J0_nar, if_true, if_false, rd_wr_same, rd_wr_ne, true_and, and_true, B_0, B_1, not_true_eq_false, not_false_eq_true, rdK0, rdK1, rdK2, rdK3, wK0r_1, wK0r_2, wK0r_4, wK1, wK2, wK3, sset_o1, sset_o2, sset_o3, c1, c2, Int.reduceAdd]

theorem s17 {nat : gNat} {d : Nat} {w : gWd} {m : Nat} {K : Lay} {v : Int} (hm : m + 3 < gSTR) (h1 : 0 ≤ K 0 4 ∧ K 0 4 < 12) : gC nat (d + 2) 17 [.ref m, .int (J v)] (putK w m K) = some (none, putK w m (addR K v)) := by
  rw [en17]
  have c2 : ∀ (K : Lay) (i v : Int), (0 ≤ i ∧ i < 12) → gC nat (d + 1) 118 [.ref (m + 3), .int (J i), .int (J v)] (putK w m K) = some (none, putK w m (sset K 3 i v)) := fun K i v h => by rw [s118 rdK3 (by omega) (by omega) (by omega), wK3]
  unfold addR
  simp (disch := first | omega | (simp only [sset_o1, sset_o2, sset_o3]; done) | exact Nat.le_of_ble_eq_true rfl) only [e17_0, e17_1, e17_4, e17_5, e17_8, e17_9, e17_12, e17_13, e17_13i, e17_14, e17_17, e17_18, e17_19, e17_22, J_add, J_sub, J_mul, J_neg, J_lt, J_le, J_eq, gArr_J, gAst_J, gSiz_J, gFld_o, gUpd_o0, gUpd_o1, gUpd_o2, gUpd_o3, gUpd_o4, gUpd_o5, gUpd_o6, gUpd_o7, gUpd_o8, gUpd_o9, gUpd_o10, gUpd_o11, gUpd_o12, gUpd_o13, gUpd_o14, gUpd_o15, gUpd_o16, gUpd_o17, gUpd_o18, gIsO_o, Option.bind_some, List.getElem?_cons_zero, List.getElem?_cons_succ, List.length_cons, List.length_nil, List.set_cons_zero, List.set_cons_succ, gCat_nil, gCat_int, gCat_ref, if_pos, if_neg, Option.toList_some, Option.toList_none, List.cons_append, List.nil_append, B_nar, J1_nar, J0_nar, if_true, if_false, rd_wr_same, rd_wr_ne, true_and, and_true, B_0, B_1, not_true_eq_false, not_false_eq_true, rdK0, rdK1, rdK2, rdK3, wK0r_1, wK0r_2, wK0r_4, wK1, wK2, wK3, sset_o1, sset_o2, sset_o3, c2]

/-! the reader: an object at x, its numbers at x + 1 -/
def putR (w : gWd) (x : Nat) (am on : Int) (A1 : Int → Int) : gWd := wr (wr w x (oC 3 [.ref (x + 1), .int (J am), .int (J on)])) (x + 1) (iC 5 (eI A1))
theorem rdR0 {w : gWd} {x : Nat} {am on : Int} {A1 : Int → Int} : rd (putR w x am on A1) x = oC 3 [.ref (x + 1), .int (J am), .int (J on)] := by
  unfold putR
  simp (disch := omega) only [rd_wr_ne, rd_wr_same]
theorem rdR1 {w : gWd} {x : Nat} {am on : Int} {A1 : Int → Int} : rd (putR w x am on A1) (x + 1) = iC 5 (eI A1) := by
  unfold putR
  simp (disch := omega) only [rd_wr_ne, rd_wr_same]
theorem rdRn {w : gWd} {x : Nat} {am on : Int} {A1 : Int → Int} {b : Nat} (h : b < x ∨ x + 1 < b) : rd (putR w x am on A1) b = rd w b := by
  unfold putR
  simp (disch := omega) only [rd_wr_ne]
theorem putR_rd {w : gWd} {x : Nat} {am on : Int} {A1 : Int → Int} {w2 : gWd} (hz : w2.2 = w.2) (h0 : rd w2 x = oC 3 [.ref (x + 1), .int (J am), .int (J on)]) (h1 : rd w2 (x + 1) = iC 5 (eI A1)) (hn : ∀ b, (b < x ∨ x + 1 < b) → rd w2 b = rd w b) : w2 = putR w x am on A1 := by
  refine Prod.ext (funext fun b => ?_) hz
  show rd w2 b = rd (putR w x am on A1) b
  by_cases hb : b < x ∨ x + 1 < b
  · rw [hn b hb, rdRn hb]
  · have hx : b = x ∨ b = x + 1 := by omega
    rcases hx with rfl | rfl
    · rw [h0, rdR0]
    · rw [h1, rdR1]
theorem wR0 {w : gWd} {x : Nat} {am on : Int} {A1 : Int → Int} {am' on' : Int} : wr (putR w x am on A1) x (oC 3 [.ref (x + 1), .int (J am'), .int (J on')]) = putR w x am' on' A1 := putR_rd (by rfl) rd_wr_same (by rw [rd_wr_ne (by omega)]; exact rdR1) (fun b hb => by rw [rd_wr_ne (by omega), rdRn hb])
theorem wR1 {w : gWd} {x : Nat} {am on : Int} {A1 : Int → Int} {B : Int → Int} : wr (putR w x am on A1) (x + 1) (iC 5 (eI B)) = putR w x am on B := putR_rd (by rfl) (by rw [rd_wr_ne (by omega)]; exact rdR0) rd_wr_same (fun b hb => by rw [rd_wr_ne (by omega), rdRn hb])

theorem wr_putR {w : gWd} {x b : Nat} {am on : Int} {A1 : Int → Int} {c : gCell} (h : b < x ∨ x + 1 < b) : wr (putR w x am on A1) b c = putR (wr w b c) x am on A1 := by
  unfold putR
  rw [wr_comm (a := x + 1) (by omega), wr_comm (a := x) (by omega)]
theorem putR_putK {w : gWd} {x m : Nat} {am on : Int} {A1 : Int → Int} {K : Lay} (h : x + 1 < m ∨ m + 3 < x) : putR (putK w m K) x am on A1 = putK (putR w x am on A1) m K := by
  unfold putK
  rw [wr_putR (by omega), wr_putR (by omega), wr_putR (by omega), wr_putR (by omega)]
def ltr (T : Int → Int) (L i : Int) : Int := if i < L then T i else 0
abbrev fig (c : Int) : Prop := 48 ≤ c ∧ c ≤ 57
def nEnd (t : Int → Int) (p : Int) : Int := if fig (t p) then (if fig (t (p + 1)) then p + 2 else p + 1) else p
def nVal (t : Int → Int) (p : Int) : Int := if fig (t p) then (if fig (t (p + 1)) then (t p - 48) * 10 + t (p + 1) - 48 else t p - 48) else 0
def nums (t : Int → Int) : Nat → Int → Int → (Int → Int) → Option (Int × Int × (Int → Int))
  | 0, _, _, _ => none
  | k + 1, i, p, N => if fig (t p) then (if t (nEnd t p) = 59 then some (i + 1, nEnd t p + 1, fset N i (nVal t p)) else if t (nEnd t p) = 44 then nums t k (i + 1) (nEnd t p + 1) (fset N i (nVal t p)) else none) else none

theorem l27a {nat : gNat} {d : Nat} {w : gWd} {x t : Nat} {on : Int} {T : Int → Int} {L : Int} (hx : x + 1 < gSTR) (ht : t < gSTR) (htx : t < x ∨ x + 1 < t) (hT : rd w t = iC 200 (eI T)) (hT1 : ∀ i, 0 ≤ i → i < 200 → 0 ≤ T i ∧ T i < 128) (hL : 0 ≤ L ∧ L ≤ 200) {am : Int} {N : Int → Int} {p : Int} (hp : 0 ≤ p ∧ p ≤ 201) {z3 z5 z8 : Option Value} : gX (gC nat (d + 1)) nat 27 21 [some (.ref x), some (.ref t), some (.int (J L)), z3, some (.int (J p)), z5, some (.int (J p)), some (.int (J 0)), z8] [] [] (putR w x am on N) = gX (gC nat (d + 1)) nat 27 75 [some (.ref x), some (.ref t), some (.int (J L)), z3, some (.int (J (nEnd (ltr T L) p))), z5, some (.int (J p)), some (.int (J (nVal (ltr T L) p))), z8] [] [] (putR w x am on N) := by
  have c1 : ∀ (i : Int), (0 ≤ i ∧ i < 200) → gC nat (d + 1) 117 [.ref t, .int (J i)] (putR w x am on N) = some (some (.int (J (T i))), putR w x am on N) := fun i h => s117 (by rw [rdRn htx]; exact hT) ht (by omega) (by omega)
  have c2 : ∀ (i : Int), (0 ≤ i ∧ i < 200) → gC nat (d + 1) 113 [.int (J (T i)), .int (J 48), .int (J 57)] (putR w x am on N) = some (some (.int (B (48 ≤ T i ∧ T i ≤ 57))), putR w x am on N) := fun i h => by
    have := hT1 i h.1 h.2
    exact s113 (by omega) (by omega) (by omega)
  unfold nEnd nVal ltr fig
  by_cases h1 : p < L
  · have d1 := c2 p (by omega)
    have b1 := hT1 p (by omega) (by omega)
    simp only [if_pos h1]
    by_cases h2 : 48 ≤ T p ∧ T p ≤ 57
    · rw [B_pos h2] at d1
      simp only [if_pos h2]
      by_cases h3 : p + 1 < L
      · have d2 := c2 (p + 1) (by omega)
        have b2 := hT1 (p + 1) (by omega) (by omega)
        simp only [if_pos h3]
        by_cases h4 : 48 ≤ T (p + 1) ∧ T (p + 1) ≤ 57
        · rw [B_pos h4] at d2
          simp only [if_pos h4]
          simp (disch := first | omega | exact Nat.le_of_ble_eq_true rfl) only [e27_0, e27_1, e27_2, e27_3, e27_5, e27_6, e27_10, e27_11, e27_14, e27_16, e27_18, e27_19, e27_21, e27_23, e27_24, e27_27, e27_29, e27_31, e27_32, e27_33, e27_36, e27_37, e27_39, e27_42, e27_44, e27_46, e27_49, e27_52, e27_54, e27_56, e27_57, e27_58, e27_60, e27_63, e27_64, e27_66, e27_67, e27_69, e27_72, e27_77, e27_78, e27_81, e27_82, e27_84, e27_87, e27_90, e27_91, e27_93, e27_95, e27_97, e27_100, e27_102, e27_104, e27_107, e27_109, e27_111, e27_114, e27_115, e27_116, e27_117, e27_120, e27_122, e27_124, e27_127, e27_128, e27_130, e27_131, e27_132, e27_135, e27_138, e27_140, e27_142, e27_145, e27_147, e27_148, e27_151, e27_154, e27_155, J_add, J_sub, J_mul, J_neg, J_lt, J_le, J_eq, gArr_J, gAst_J, gSiz_J, gFld_o, gUpd_o0, gUpd_o1, gUpd_o2, gUpd_o3, gUpd_o4, gUpd_o5, gUpd_o6, gUpd_o7, gUpd_o8, gUpd_o9, gUpd_o10, gUpd_o11, gUpd_o12, gUpd_o13, gUpd_o14, gUpd_o15, gUpd_o16, gUpd_o17, gUpd_o18, gIsO_o, Option.bind_some, List.getElem?_cons_zero, List.getElem?_cons_succ, List.length_cons, List.length_nil, List.set_cons_zero, List.set_cons_succ, gCat_nil, gCat_int, gCat_ref, if_pos, if_neg, Option.toList_some, Option.toList_none, List.cons_append, List.nil_append, B_nar, J1_nar, J0_nar, if_true, if_false, rd_wr_same, rd_wr_ne, true_and, and_true, B_0, B_1, not_true_eq_false, not_false_eq_true, rdR0, rdR1, wR0, wR1, c1, d1, d2, Int.add_assoc, Int.reduceAdd, Int.zero_mul, Int.zero_add, ite_self]
        · rw [B_neg h4] at d2
          simp only [if_neg h4]
          simp (disch := first | omega | exact Nat.le_of_ble_eq_true rfl) only [e27_0, e27_1, e27_2, e27_3, e27_5, e27_6, e27_10, e27_11, e27_14, e27_16, e27_18, e27_19, e27_21, e27_23, e27_24, e27_27, e27_29, e27_31, e27_32, e27_33, e27_36, e27_37, e27_39, e27_42, e27_44, e27_46, e27_49, e27_52, e27_54, e27_56, e27_57, e27_58, e27_60, e27_63, e27_64, e27_66, e27_67, e27_69, e27_72, e27_77, e27_78, e27_81, e27_82, e27_84, e27_87, e27_90, e27_91, e27_93, e27_95, e27_97, e27_100, e27_102, e27_104, e27_107, e27_109, e27_111, e27_114, e27_115, e27_116, e27_117, e27_120, e27_122, e27_124, e27_127, e27_128, e27_130, e27_131, e27_132, e27_135, e27_138, e27_140, e27_142, e27_145, e27_147, e27_148, e27_151, e27_154, e27_155, J_add, J_sub, J_mul, J_neg, J_lt, J_le, J_eq, gArr_J, gAst_J, gSiz_J, gFld_o, gUpd_o0, gUpd_o1, gUpd_o2, gUpd_o3, gUpd_o4, gUpd_o5, gUpd_o6, gUpd_o7, gUpd_o8, gUpd_o9, gUpd_o10, gUpd_o11, gUpd_o12, gUpd_o13, gUpd_o14, gUpd_o15, gUpd_o16, gUpd_o17, gUpd_o18, gIsO_o, Option.bind_some, List.getElem?_cons_zero, List.getElem?_cons_succ, List.length_cons, List.length_nil, List.set_cons_zero, List.set_cons_succ, gCat_nil, gCat_int, gCat_ref, if_pos, if_neg, Option.toList_some, Option.toList_none, List.cons_append, List.nil_append, B_nar, J1_nar, J0_nar, if_true, if_false, rd_wr_same, rd_wr_ne, true_and, and_true, B_0, B_1, not_true_eq_false, not_false_eq_true, rdR0, rdR1, wR0, wR1, c1, d1, d2, Int.zero_mul, Int.zero_add]
      · simp only [if_neg h3]
        rw [if_neg (by omega), if_neg (by omega)]
        simp (disch := first | omega | exact Nat.le_of_ble_eq_true rfl) only [e27_0, e27_1, e27_2, e27_3, e27_5, e27_6, e27_10, e27_11, e27_14, e27_16, e27_18, e27_19, e27_21, e27_23, e27_24, e27_27, e27_29, e27_31, e27_32, e27_33, e27_36, e27_37, e27_39, e27_42, e27_44, e27_46, e27_49, e27_52, e27_54, e27_56, e27_57, e27_58, e27_60, e27_63, e27_64, e27_66, e27_67, e27_69, e27_72, e27_77, e27_78, e27_81, e27_82, e27_84, e27_87, e27_90, e27_91, e27_93, e27_95, e27_97, e27_100, e27_102, e27_104, e27_107, e27_109, e27_111, e27_114, e27_115, e27_116, e27_117, e27_120, e27_122, e27_124, e27_127, e27_128, e27_130, e27_131, e27_132, e27_135, e27_138, e27_140, e27_142, e27_145, e27_147, e27_148, e27_151, e27_154, e27_155, J_add, J_sub, J_mul, J_neg, J_lt, J_le, J_eq, gArr_J, gAst_J, gSiz_J, gFld_o, gUpd_o0, gUpd_o1, gUpd_o2, gUpd_o3, gUpd_o4, gUpd_o5, gUpd_o6, gUpd_o7, gUpd_o8, gUpd_o9, gUpd_o10, gUpd_o11, gUpd_o12, gUpd_o13, gUpd_o14, gUpd_o15, gUpd_o16, gUpd_o17, gUpd_o18, gIsO_o, Option.bind_some, List.getElem?_cons_zero, List.getElem?_cons_succ, List.length_cons, List.length_nil, List.set_cons_zero, List.set_cons_succ, gCat_nil, gCat_int, gCat_ref, if_pos, if_neg, Option.toList_some, Option.toList_none, List.cons_append, List.nil_append, B_nar, J1_nar, J0_nar, if_true, if_false, rd_wr_same, rd_wr_ne, true_and, and_true, B_0, B_1, not_true_eq_false, not_false_eq_true, rdR0, rdR1, wR0, wR1, c1, d1, Int.zero_mul, Int.zero_add]
    · rw [B_neg h2] at d1
      simp only [if_neg h2]
      simp (disch := first | omega | exact Nat.le_of_ble_eq_true rfl) only [e27_0, e27_1, e27_2, e27_3, e27_5, e27_6, e27_10, e27_11, e27_14, e27_16, e27_18, e27_19, e27_21, e27_23, e27_24, e27_27, e27_29, e27_31, e27_32, e27_33, e27_36, e27_37, e27_39, e27_42, e27_44, e27_46, e27_49, e27_52, e27_54, e27_56, e27_57, e27_58, e27_60, e27_63, e27_64, e27_66, e27_67, e27_69, e27_72, e27_77, e27_78, e27_81, e27_82, e27_84, e27_87, e27_90, e27_91, e27_93, e27_95, e27_97, e27_100, e27_102, e27_104, e27_107, e27_109, e27_111, e27_114, e27_115, e27_116, e27_117, e27_120, e27_122, e27_124, e27_127, e27_128, e27_130, e27_131, e27_132, e27_135, e27_138, e27_140, e27_142, e27_145, e27_147, e27_148, e27_151, e27_154, e27_155, J_add, J_sub, J_mul, J_neg, J_lt, J_le, J_eq, gArr_J, gAst_J, gSiz_J, gFld_o, gUpd_o0, gUpd_o1, gUpd_o2, gUpd_o3, gUpd_o4, gUpd_o5, gUpd_o6, gUpd_o7, gUpd_o8, gUpd_o9, gUpd_o10, gUpd_o11, gUpd_o12, gUpd_o13, gUpd_o14, gUpd_o15, gUpd_o16, gUpd_o17, gUpd_o18, gIsO_o, Option.bind_some, List.getElem?_cons_zero, List.getElem?_cons_succ, List.length_cons, List.length_nil, List.set_cons_zero, List.set_cons_succ, gCat_nil, gCat_int, gCat_ref, if_pos, if_neg, Option.toList_some, Option.toList_none, List.cons_append, List.nil_append, B_nar, J1_nar, J0_nar, if_true, if_false, rd_wr_same, rd_wr_ne, true_and, and_true, B_0, B_1, not_true_eq_false, not_false_eq_true, rdR0, rdR1, wR0, wR1, c1, d1]
  · simp only [if_neg h1]
    rw [if_neg (by omega), if_neg (by omega)]
    simp (disch := first | omega | exact Nat.le_of_ble_eq_true rfl) only [e27_0, e27_1, e27_2, e27_3, e27_5, e27_6, e27_10, e27_11, e27_14, e27_16, e27_18, e27_19, e27_21, e27_23, e27_24, e27_27, e27_29, e27_31, e27_32, e27_33, e27_36, e27_37, e27_39, e27_42, e27_44, e27_46, e27_49, e27_52, e27_54, e27_56, e27_57, e27_58, e27_60, e27_63, e27_64, e27_66, e27_67, e27_69, e27_72, e27_77, e27_78, e27_81, e27_82, e27_84, e27_87, e27_90, e27_91, e27_93, e27_95, e27_97, e27_100, e27_102, e27_104, e27_107, e27_109, e27_111, e27_114, e27_115, e27_116, e27_117, e27_120, e27_122, e27_124, e27_127, e27_128, e27_130, e27_131, e27_132, e27_135, e27_138, e27_140, e27_142, e27_145, e27_147, e27_148, e27_151, e27_154, e27_155, J_add, J_sub, J_mul, J_neg, J_lt, J_le, J_eq, gArr_J, gAst_J, gSiz_J, gFld_o, gUpd_o0, gUpd_o1, gUpd_o2, gUpd_o3, gUpd_o4, gUpd_o5, gUpd_o6, gUpd_o7, gUpd_o8, gUpd_o9, gUpd_o10, gUpd_o11, gUpd_o12, gUpd_o13, gUpd_o14, gUpd_o15, gUpd_o16, gUpd_o17, gUpd_o18, gIsO_o, Option.bind_some, List.getElem?_cons_zero, List.getElem?_cons_succ, List.length_cons, List.length_nil, List.set_cons_zero, List.set_cons_succ, gCat_nil, gCat_int, gCat_ref, if_pos, if_neg, Option.toList_some, Option.toList_none, List.cons_append, List.nil_append, B_nar, J1_nar, J0_nar, if_true, if_false, rd_wr_same, rd_wr_ne, true_and, and_true, B_0, B_1, not_true_eq_false, not_false_eq_true, rdR0, rdR1, wR0, wR1]
