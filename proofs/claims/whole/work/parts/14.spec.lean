theorem s117 {nat : gNat} {d : Nat} {w : gWd} {a n : Nat} {f : Int → Int} {i : Int} (hr : rd w a = iC n (eI f)) (ha : a < gSTR) (hn : n < 2147483648) (hi : 0 ≤ i ∧ i < n) : gC nat (d + 1) 117 [.ref a, .int (J i)] w = some (some (.int (J (f i))), w) := by
  rw [en117]
  simp (disch := first | omega | exact Nat.le_of_ble_eq_true rfl) only [e117_0, e117_1, e117_1n, e117_4, e117_5, e117_8, e117_9, e117_10, e117_11, e117_14, e117_15, e117_16, e117_17, e117_20, e117_21, J_add, J_sub, J_mul, J_neg, J_lt, J_le, J_eq, gArr_J, gAst_J, gSiz_J, gFld_o, gUpd_o0, gUpd_o1, gUpd_o2, gUpd_o3, gUpd_o4, gUpd_o5, gUpd_o6, gUpd_o7, gUpd_o8, gUpd_o9, gUpd_o10, gUpd_o11, gUpd_o12, gUpd_o13, gUpd_o14, gUpd_o15, gUpd_o16, gUpd_o17, gUpd_o18, gIsO_o, Option.bind_some, List.getElem?_cons_zero, List.getElem?_cons_succ, List.length_cons, List.length_nil, List.set_cons_zero, List.set_cons_succ, gCat_nil, gCat_int, gCat_ref, if_pos, if_neg, Option.toList_some, Option.toList_none, List.cons_append, List.nil_append, B_nar, J1_nar, J0_nar, if_true, if_false, rd_wr_same, rd_wr_ne, true_and, and_true, B_0, B_1, not_true_eq_false, not_false_eq_true, hr, ha]

theorem s118 {nat : gNat} {d : Nat} {w : gWd} {a n : Nat} {f : Int → Int} {i v : Int} (hr : rd w a = iC n (eI f)) (ha : a < gSTR) (hn : n < 2147483648) (hi : 0 ≤ i ∧ i < n) : gC nat (d + 1) 118 [.ref a, .int (J i), .int (J v)] w = some (none, wr w a (iC n (eI (fset f i v)))) := by
  rw [en118]
  simp (disch := first | omega | exact Nat.le_of_ble_eq_true rfl) only [e118_0, e118_1, e118_1n, e118_4, e118_5, e118_8, e118_9, e118_10, e118_11, e118_14, e118_15, e118_16, e118_17, e118_18, J_add, J_sub, J_mul, J_neg, J_lt, J_le, J_eq, gArr_J, gAst_J, gSiz_J, gFld_o, gUpd_o0, gUpd_o1, gUpd_o2, gUpd_o3, gUpd_o4, gUpd_o5, gUpd_o6, gUpd_o7, gUpd_o8, gUpd_o9, gUpd_o10, gUpd_o11, gUpd_o12, gUpd_o13, gUpd_o14, gUpd_o15, gUpd_o16, gUpd_o17, gUpd_o18, gIsO_o, Option.bind_some, List.getElem?_cons_zero, List.getElem?_cons_succ, List.length_cons, List.length_nil, List.set_cons_zero, List.set_cons_succ, gCat_nil, gCat_int, gCat_ref, if_pos, if_neg, Option.toList_some, Option.toList_none, List.cons_append, List.nil_append, B_nar, J1_nar, J0_nar, if_true, if_false, rd_wr_same, rd_wr_ne, true_and, and_true, B_0, B_1, not_true_eq_false, not_false_eq_true, hr, ha]

theorem s113 {nat : gNat} {d : Nat} {w : gWd} {x l h : Int} (hx : -2147483648 ≤ x ∧ x < 2147483648) (hl : -2147483648 ≤ l ∧ l < 2147483648) (hh : -2147483648 ≤ h ∧ h < 2147483648) : gC nat (d + 1) 113 [.int (J x), .int (J l), .int (J h)] w = some (some (.int (B (l ≤ x ∧ x ≤ h))), w) := by
  rw [en113]
  by_cases h1 : l ≤ x
  · by_cases h2 : x ≤ h
    · rw [B_pos ⟨h1, h2⟩]
      simp (disch := first | omega | exact Nat.le_of_ble_eq_true rfl) only [e113_0, e113_1, e113_2, e113_5, e113_6, e113_7, e113_10, e113_11, e113_14, e113_15, J_add, J_sub, J_mul, J_neg, J_lt, J_le, J_eq, gArr_J, gAst_J, gSiz_J, gFld_o, gUpd_o0, gUpd_o1, gUpd_o2, gUpd_o3, gUpd_o4, gUpd_o5, gUpd_o6, gUpd_o7, gUpd_o8, gUpd_o9, gUpd_o10, gUpd_o11, gUpd_o12, gUpd_o13, gUpd_o14, gUpd_o15, gUpd_o16, gUpd_o17, gUpd_o18, gIsO_o, Option.bind_some, List.getElem?_cons_zero, List.getElem?_cons_succ, List.length_cons, List.length_nil, List.set_cons_zero, List.set_cons_succ, gCat_nil, gCat_int, gCat_ref, if_pos, if_neg, Option.toList_some, Option.toList_none, List.cons_append, List.nil_append, B_nar, J1_nar, J0_nar, if_true, if_false, rd_wr_same, rd_wr_ne, true_and, and_true, B_0, B_1, not_true_eq_false, not_false_eq_true]
    · rw [B_neg (fun q => h2 q.2)]
      simp (disch := first | omega | exact Nat.le_of_ble_eq_true rfl) only [e113_0, e113_1, e113_2, e113_5, e113_6, e113_7, e113_10, e113_11, e113_14, e113_15, J_add, J_sub, J_mul, J_neg, J_lt, J_le, J_eq, gArr_J, gAst_J, gSiz_J, gFld_o, gUpd_o0, gUpd_o1, gUpd_o2, gUpd_o3, gUpd_o4, gUpd_o5, gUpd_o6, gUpd_o7, gUpd_o8, gUpd_o9, gUpd_o10, gUpd_o11, gUpd_o12, gUpd_o13, gUpd_o14, gUpd_o15, gUpd_o16, gUpd_o17, gUpd_o18, gIsO_o, Option.bind_some, List.getElem?_cons_zero, List.getElem?_cons_succ, List.length_cons, List.length_nil, List.set_cons_zero, List.set_cons_succ, gCat_nil, gCat_int, gCat_ref, if_pos, if_neg, Option.toList_some, Option.toList_none, List.cons_append, List.nil_append, B_nar, J1_nar, J0_nar, if_true, if_false, rd_wr_same, rd_wr_ne, true_and, and_true, B_0, B_1, not_true_eq_false, not_false_eq_true]
  · rw [B_neg (fun q => h1 q.1)]
    simp (disch := first | omega | exact Nat.le_of_ble_eq_true rfl) only [e113_0, e113_1, e113_2, e113_5, e113_6, e113_7, e113_10, e113_11, e113_14, e113_15, J_add, J_sub, J_mul, J_neg, J_lt, J_le, J_eq, gArr_J, gAst_J, gSiz_J, gFld_o, gUpd_o0, gUpd_o1, gUpd_o2, gUpd_o3, gUpd_o4, gUpd_o5, gUpd_o6, gUpd_o7, gUpd_o8, gUpd_o9, gUpd_o10, gUpd_o11, gUpd_o12, gUpd_o13, gUpd_o14, gUpd_o15, gUpd_o16, gUpd_o17, gUpd_o18, gIsO_o, Option.bind_some, List.getElem?_cons_zero, List.getElem?_cons_succ, List.length_cons, List.length_nil, List.set_cons_zero, List.set_cons_succ, gCat_nil, gCat_int, gCat_ref, if_pos, if_neg, Option.toList_some, Option.toList_none, List.cons_append, List.nil_append, B_nar, J1_nar, J0_nar, if_true, if_false, rd_wr_same, rd_wr_ne, true_and, and_true, B_0, B_1, not_true_eq_false, not_false_eq_true]

theorem s116 {nat : gNat} {d : Nat} {w : gWd} {p : Prop} [Decidable p] : gC nat (d + 1) 116 [.int (B p)] w = some (some (.int (B p)), w) := by
  rw [en116]
  by_cases h : p
  · rw [B_pos h]
    simp (disch := first | omega | exact Nat.le_of_ble_eq_true rfl) only [e116_0, e116_1, e116_4, e116_5, e116_8, e116_9, J_add, J_sub, J_mul, J_neg, J_lt, J_le, J_eq, gArr_J, gAst_J, gSiz_J, gFld_o, gUpd_o0, gUpd_o1, gUpd_o2, gUpd_o3, gUpd_o4, gUpd_o5, gUpd_o6, gUpd_o7, gUpd_o8, gUpd_o9, gUpd_o10, gUpd_o11, gUpd_o12, gUpd_o13, gUpd_o14, gUpd_o15, gUpd_o16, gUpd_o17, gUpd_o18, gIsO_o, Option.bind_some, List.getElem?_cons_zero, List.getElem?_cons_succ, List.length_cons, List.length_nil, List.set_cons_zero, List.set_cons_succ, gCat_nil, gCat_int, gCat_ref, if_pos, if_neg, Option.toList_some, Option.toList_none, List.cons_append, List.nil_append, B_nar, J1_nar, J0_nar, if_true, if_false, rd_wr_same, rd_wr_ne, true_and, and_true, B_0, B_1, not_true_eq_false, not_false_eq_true]
  · rw [B_neg h]
    simp (disch := first | omega | exact Nat.le_of_ble_eq_true rfl) only [e116_0, e116_1, e116_4, e116_5, e116_8, e116_9, J_add, J_sub, J_mul, J_neg, J_lt, J_le, J_eq, gArr_J, gAst_J, gSiz_J, gFld_o, gUpd_o0, gUpd_o1, gUpd_o2, gUpd_o3, gUpd_o4, gUpd_o5, gUpd_o6, gUpd_o7, gUpd_o8, gUpd_o9, gUpd_o10, gUpd_o11, gUpd_o12, gUpd_o13, gUpd_o14, gUpd_o15, gUpd_o16, gUpd_o17, gUpd_o18, gIsO_o, Option.bind_some, List.getElem?_cons_zero, List.getElem?_cons_succ, List.length_cons, List.length_nil, List.set_cons_zero, List.set_cons_succ, gCat_nil, gCat_int, gCat_ref, if_pos, if_neg, Option.toList_some, Option.toList_none, List.cons_append, List.nil_append, B_nar, J1_nar, J0_nar, if_true, if_false, rd_wr_same, rd_wr_ne, true_and, and_true, B_0, B_1, not_true_eq_false, not_false_eq_true]

/-- a mere's cells -/
def isMe (w : gWd) (m : Nat) (K : Lay) : Prop := m + 3 < gSTR ∧ rd w m = oC 2 [.int (J (K 0 0)), .int (J (K 0 1)), .int (J (K 0 2)), .int (J (K 0 3)), .int (J (K 0 4)), .ref (m + 1), .ref (m + 2), .ref (m + 3)] ∧ rd w (m + 1) = iC 40 (eI (K 1)) ∧ rd w (m + 2) = iC 12 (eI (K 2)) ∧ rd w (m + 3) = iC 12 (eI (K 3))
/-- a standing's cells -/
def isSt (w : gWd) (a : Nat) (S : Lay) : Prop := a + 3 < gSTR ∧ rd w a = oC 7 [.int (J (S 0 0)), .ref (a + 1), .ref (a + 2), .ref (a + 3)] ∧ rd w (a + 1) = iC 8 (eI (S 1)) ∧ rd w (a + 2) = iC 4 (eI (S 2)) ∧ rd w (a + 3) = iC 4 (eI (S 3))
def putS (w : gWd) (a : Nat) (S : Lay) : gWd := wr (wr (wr (wr w a (oC 7 [.int (J (S 0 0)), .ref (a + 1), .ref (a + 2), .ref (a + 3)])) (a + 1) (iC 8 (eI (S 1)))) (a + 2) (iC 4 (eI (S 2)))) (a + 3) (iC 4 (eI (S 3)))
def off (a m : Nat) : Prop := m + 3 < a ∨ a + 3 < m
theorem rd_putS {w : gWd} {a b : Nat} {S : Lay} (h : b < a ∨ a + 3 < b) : rd (putS w a S) b = rd w b := by
  unfold putS
  rw [rd_wr_ne (by omega), rd_wr_ne (by omega), rd_wr_ne (by omega), rd_wr_ne (by omega)]
theorem isMe_putS {w : gWd} {a m : Nat} {S K : Lay} (h : off a m) (hm : isMe w m K) : isMe (putS w a S) m K := by
  obtain ⟨h0, h1, h2, h3, h4⟩ := hm
  unfold off at h
  exact ⟨h0, by rw [rd_putS (by omega)]; exact h1, by rw [rd_putS (by omega)]; exact h2, by rw [rd_putS (by omega)]; exact h3, by rw [rd_putS (by omega)]; exact h4⟩
theorem isSt_putS {w : gWd} {a : Nat} {S : Lay} (h : a + 3 < gSTR) : isSt (putS w a S) a S := by
  unfold putS
  refine ⟨h, ?_, ?_, ?_, ?_⟩
  · rw [rd_wr_ne (by omega), rd_wr_ne (by omega), rd_wr_ne (by omega), rd_wr_same]
  · rw [rd_wr_ne (by omega), rd_wr_ne (by omega), rd_wr_same]
  · rw [rd_wr_ne (by omega), rd_wr_same]
  · rw [rd_wr_same]
theorem isSt_off {w : gWd} {a b : Nat} {S T : Lay} (h : off a b) (hb : isSt w b T) : isSt (putS w a S) b T := by
  obtain ⟨h0, h1, h2, h3, h4⟩ := hb
  unfold off at h
  exact ⟨h0, by rw [rd_putS (by omega)]; exact h1, by rw [rd_putS (by omega)]; exact h2, by rw [rd_putS (by omega)]; exact h3, by rw [rd_putS (by omega)]; exact h4⟩
theorem putS_self {w : gWd} {a : Nat} {S : Lay} (h : isSt w a S) : putS w a S = w := by
  obtain ⟨h0, h1, h2, h3, h4⟩ := h
  unfold putS
  rw [wr_self h1, wr_self h2, wr_self h3, wr_self h4]
theorem putS_0 {w : gWd} {a : Nat} {S : Lay} (h : isSt w a S) {v : Int} : wr w a (oC 7 [.int (J v), .ref (a + 1), .ref (a + 2), .ref (a + 3)]) = putS w a (sset S 0 0 v) := by
  obtain ⟨h0, h1, h2, h3, h4⟩ := h
  unfold putS
  rw [sset_at, sset_row (by decide), sset_row (by decide), sset_row (by decide), wr_self (a := a + 1) (by rw [rd_wr_ne (by omega)]; exact h2), wr_self (a := a + 2) (by rw [rd_wr_ne (by omega)]; exact h3), wr_self (a := a + 3) (by rw [rd_wr_ne (by omega)]; exact h4)]
theorem putS_1 {w : gWd} {a : Nat} {S : Lay} (h : isSt w a S) {i v : Int} : wr w (a + 1) (iC 8 (eI (fset (S 1) i v))) = putS w a (sset S 1 i v) := by
  obtain ⟨h0, h1, h2, h3, h4⟩ := h
  unfold putS
  rw [sset_row (by decide), sset_fset, sset_row (by decide), sset_row (by decide), wr_self h1, wr_self (a := a + 2) (by rw [rd_wr_ne (by omega)]; exact h3), wr_self (a := a + 3) (by rw [rd_wr_ne (by omega)]; exact h4)]
theorem putS_2 {w : gWd} {a : Nat} {S : Lay} (h : isSt w a S) {i v : Int} : wr w (a + 2) (iC 4 (eI (fset (S 2) i v))) = putS w a (sset S 2 i v) := by
  obtain ⟨h0, h1, h2, h3, h4⟩ := h
  unfold putS
  rw [sset_row (by decide), sset_row (by decide), sset_fset, sset_row (by decide), wr_self h1, wr_self h2, wr_self (a := a + 3) (by rw [rd_wr_ne (by omega)]; exact h4)]
theorem putS_3 {w : gWd} {a : Nat} {S : Lay} (h : isSt w a S) {i v : Int} : wr w (a + 3) (iC 4 (eI (fset (S 3) i v))) = putS w a (sset S 3 i v) := by
  obtain ⟨h0, h1, h2, h3, h4⟩ := h
  unfold putS
  rw [sset_row (by decide), sset_row (by decide), sset_row (by decide), sset_fset, wr_self h1, wr_self h2, wr_self h3]
theorem wr_absorb {w : gWd} {a b : Nat} {c c' c'' : gCell} (h : a ≠ b) : wr (wr (wr w a c) b c') a c'' = wr (wr w a c'') b c' := by
  rw [wr_comm h, wr_wr, wr_comm (Ne.symm h)]
theorem putS_putS {w : gWd} {a : Nat} {S T : Lay} : putS (putS w a S) a T = putS w a T := by
  have key : ∀ x : Nat, rd (putS (putS w a S) a T) x = rd (putS w a T) x := by
    intro x
    by_cases h : x < a ∨ a + 3 < x
    · rw [rd_putS h, rd_putS h, rd_putS h]
    · have hx : x = a ∨ x = a + 1 ∨ x = a + 2 ∨ x = a + 3 := by omega
      unfold putS
      rcases hx with rfl | rfl | rfl | rfl
      · simp (disch := omega) only [rd_wr_ne, rd_wr_same]
      · simp (disch := omega) only [rd_wr_ne, rd_wr_same]
      · simp (disch := omega) only [rd_wr_ne, rd_wr_same]
      · simp (disch := omega) only [rd_wr_ne, rd_wr_same]
  have h2 : (putS (putS w a S) a T).2 = (putS w a T).2 := rfl
  exact Prod.ext (funext key) h2

theorem s18 {nat : gNat} {d : Nat} {w : gWd} {m : Nat} {K : Lay} {g i : Int} (hm : isMe w m K) (hg : 0 ≤ g ∧ g < 8) (hi : 0 ≤ i ∧ i < 5) : gC nat (d + 1) 18 [.ref m, .int (J g), .int (J i)] w = some (some (.int (J (K 1 (5 * g + i)))), w) := by
  rw [en18]
  obtain ⟨m0, m1, m2, m3, m4⟩ := id hm
  have hlt : m + 1 < gSTR := by omega
  simp (disch := first | omega | exact Nat.le_of_ble_eq_true rfl) only [e18_0, e18_1, e18_2, e18_3, e18_4, e18_5, e18_6, e18_7, e18_10, e18_11, e18_12, e18_15, e18_16, e18_19, e18_20, e18_23, e18_24, e18_25, e18_28, e18_29, J_add, J_sub, J_mul, J_neg, J_lt, J_le, J_eq, gArr_J, gAst_J, gSiz_J, gFld_o, gUpd_o0, gUpd_o1, gUpd_o2, gUpd_o3, gUpd_o4, gUpd_o5, gUpd_o6, gUpd_o7, gUpd_o8, gUpd_o9, gUpd_o10, gUpd_o11, gUpd_o12, gUpd_o13, gUpd_o14, gUpd_o15, gUpd_o16, gUpd_o17, gUpd_o18, gIsO_o, Option.bind_some, List.getElem?_cons_zero, List.getElem?_cons_succ, List.length_cons, List.length_nil, List.set_cons_zero, List.set_cons_succ, gCat_nil, gCat_int, gCat_ref, if_pos, if_neg, Option.toList_some, Option.toList_none, List.cons_append, List.nil_append, B_nar, J1_nar, J0_nar, if_true, if_false, rd_wr_same, rd_wr_ne, true_and, and_true, B_0, B_1, not_true_eq_false, not_false_eq_true, m1, m2, hlt]
  rw [show g * 5 + i = 5 * g + i by omega]

theorem s19 {nat : gNat} {d : Nat} {w : gWd} {m : Nat} {K : Lay} {g i : Int} (hm : isMe w m K) (hg : 0 ≤ g ∧ g < 4) (hi : 0 ≤ i ∧ i < 3) : gC nat (d + 1) 19 [.ref m, .int (J g), .int (J i)] w = some (some (.int (J (K 2 (3 * g + i)))), w) := by
  rw [en19]
  obtain ⟨m0, m1, m2, m3, m4⟩ := id hm
  have hlt : m + 2 < gSTR := by omega
  simp (disch := first | omega | exact Nat.le_of_ble_eq_true rfl) only [e19_0, e19_1, e19_2, e19_3, e19_4, e19_5, e19_6, e19_7, e19_10, e19_11, e19_12, e19_15, e19_16, e19_19, e19_20, e19_23, e19_24, e19_25, e19_28, e19_29, J_add, J_sub, J_mul, J_neg, J_lt, J_le, J_eq, gArr_J, gAst_J, gSiz_J, gFld_o, gUpd_o0, gUpd_o1, gUpd_o2, gUpd_o3, gUpd_o4, gUpd_o5, gUpd_o6, gUpd_o7, gUpd_o8, gUpd_o9, gUpd_o10, gUpd_o11, gUpd_o12, gUpd_o13, gUpd_o14, gUpd_o15, gUpd_o16, gUpd_o17, gUpd_o18, gIsO_o, Option.bind_some, List.getElem?_cons_zero, List.getElem?_cons_succ, List.length_cons, List.length_nil, List.set_cons_zero, List.set_cons_succ, gCat_nil, gCat_int, gCat_ref, if_pos, if_neg, Option.toList_some, Option.toList_none, List.cons_append, List.nil_append, B_nar, J1_nar, J0_nar, if_true, if_false, rd_wr_same, rd_wr_ne, true_and, and_true, B_0, B_1, not_true_eq_false, not_false_eq_true, m1, m3, hlt]
  rw [show g * 3 + i = 3 * g + i by omega]

theorem s20 {nat : gNat} {d : Nat} {w : gWd} {m : Nat} {K : Lay} {h : Int} (hm : isMe w m K) (hK : vK K) (hh : 0 ≤ h ∧ h < 2147483648) : gC nat (d + 1) 20 [.ref m, .int (J h)] w = some (some (.int (B (h % 24 < K 0 3))), w) := by
  rw [en20]
  obtain ⟨m0, m1, m2, m3, m4⟩ := id hm
  obtain ⟨k0, k1, k2, k3, k4, kg, kd, kr⟩ := id hK
  by_cases hl : h % 24 < K 0 3
  · rw [B_pos hl]
    simp (disch := first | omega | exact Nat.le_of_ble_eq_true rfl) only [e20_0, e20_1, e20_3, e20_4, e20_5, e20_8, e20_11, e20_12, e20_15, e20_16, J_add, J_sub, J_mul, J_neg, J_lt, J_le, J_eq, gArr_J, gAst_J, gSiz_J, gFld_o, gUpd_o0, gUpd_o1, gUpd_o2, gUpd_o3, gUpd_o4, gUpd_o5, gUpd_o6, gUpd_o7, gUpd_o8, gUpd_o9, gUpd_o10, gUpd_o11, gUpd_o12, gUpd_o13, gUpd_o14, gUpd_o15, gUpd_o16, gUpd_o17, gUpd_o18, gIsO_o, Option.bind_some, List.getElem?_cons_zero, List.getElem?_cons_succ, List.length_cons, List.length_nil, List.set_cons_zero, List.set_cons_succ, gCat_nil, gCat_int, gCat_ref, if_pos, if_neg, Option.toList_some, Option.toList_none, List.cons_append, List.nil_append, B_nar, J1_nar, J0_nar, if_true, if_false, rd_wr_same, rd_wr_ne, true_and, and_true, B_0, B_1, not_true_eq_false, not_false_eq_true, m1, J_div, I_mod, J_ne0]
  · rw [B_neg hl]
    simp (disch := first | omega | exact Nat.le_of_ble_eq_true rfl) only [e20_0, e20_1, e20_3, e20_4, e20_5, e20_8, e20_11, e20_12, e20_15, e20_16, J_add, J_sub, J_mul, J_neg, J_lt, J_le, J_eq, gArr_J, gAst_J, gSiz_J, gFld_o, gUpd_o0, gUpd_o1, gUpd_o2, gUpd_o3, gUpd_o4, gUpd_o5, gUpd_o6, gUpd_o7, gUpd_o8, gUpd_o9, gUpd_o10, gUpd_o11, gUpd_o12, gUpd_o13, gUpd_o14, gUpd_o15, gUpd_o16, gUpd_o17, gUpd_o18, gIsO_o, Option.bind_some, List.getElem?_cons_zero, List.getElem?_cons_succ, List.length_cons, List.length_nil, List.set_cons_zero, List.set_cons_succ, gCat_nil, gCat_int, gCat_ref, if_pos, if_neg, Option.toList_some, Option.toList_none, List.cons_append, List.nil_append, B_nar, J1_nar, J0_nar, if_true, if_false, rd_wr_same, rd_wr_ne, true_and, and_true, B_0, B_1, not_true_eq_false, not_false_eq_true, m1, J_div, I_mod, J_ne0]

theorem s22 {nat : gNat} {d : Nat} {w : gWd} {m : Nat} {K : Lay} {h : Int} (hm : isMe w m K) (hK : vK K) (hh : 0 ≤ h ∧ h < 2147483648) : gC nat (d + 2) 22 [.ref m, .int (J h)] w = some (some (.int (B (0 < K 0 4 ∧ K 3 (h % K 0 4) = 1))), w) := by
  rw [en22]
  obtain ⟨m0, m1, m2, m3, m4⟩ := id hm
  obtain ⟨k0, k1, k2, k3, k4, kg, kd, kr⟩ := id hK
  have hlt : m + 3 < gSTR := by omega
  by_cases h0 : 0 < K 0 4
  · have h1 := Int.emod_nonneg h (show K 0 4 ≠ 0 by omega)
    have h2 := Int.emod_lt_of_pos h h0
    have h3 := kr _ h1 h2
    have hc := s117 (nat := nat) (d := d) (w := w) (a := m + 3) (n := 12) (f := K 3) (i := h % K 0 4) m4 hlt (by omega) (by omega)
    by_cases hq : K 3 (h % K 0 4) = 1
    · rw [B_pos ⟨h0, hq⟩]
      simp (disch := first | omega | exact Nat.le_of_ble_eq_true rfl) only [e22_0, e22_1, e22_4, e22_7, e22_8, e22_11, e22_12, e22_13, e22_16, e22_17, e22_20, e22_21, e22_24, e22_25, e22_28, e22_29, J_add, J_sub, J_mul, J_neg, J_lt, J_le, J_eq, gArr_J, gAst_J, gSiz_J, gFld_o, gUpd_o0, gUpd_o1, gUpd_o2, gUpd_o3, gUpd_o4, gUpd_o5, gUpd_o6, gUpd_o7, gUpd_o8, gUpd_o9, gUpd_o10, gUpd_o11, gUpd_o12, gUpd_o13, gUpd_o14, gUpd_o15, gUpd_o16, gUpd_o17, gUpd_o18, gIsO_o, Option.bind_some, List.getElem?_cons_zero, List.getElem?_cons_succ, List.length_cons, List.length_nil, List.set_cons_zero, List.set_cons_succ, gCat_nil, gCat_int, gCat_ref, if_pos, if_neg, Option.toList_some, Option.toList_none, List.cons_append, List.nil_append, B_nar, J1_nar, J0_nar, if_true, if_false, rd_wr_same, rd_wr_ne, true_and, and_true, B_0, B_1, not_true_eq_false, not_false_eq_true, m1, J_div, I_mod, J_ne0, hc]
    · rw [B_neg (fun q => hq q.2)]
      simp (disch := first | omega | exact Nat.le_of_ble_eq_true rfl) only [e22_0, e22_1, e22_4, e22_7, e22_8, e22_11, e22_12, e22_13, e22_16, e22_17, e22_20, e22_21, e22_24, e22_25, e22_28, e22_29, J_add, J_sub, J_mul, J_neg, J_lt, J_le, J_eq, gArr_J, gAst_J, gSiz_J, gFld_o, gUpd_o0, gUpd_o1, gUpd_o2, gUpd_o3, gUpd_o4, gUpd_o5, gUpd_o6, gUpd_o7, gUpd_o8, gUpd_o9, gUpd_o10, gUpd_o11, gUpd_o12, gUpd_o13, gUpd_o14, gUpd_o15, gUpd_o16, gUpd_o17, gUpd_o18, gIsO_o, Option.bind_some, List.getElem?_cons_zero, List.getElem?_cons_succ, List.length_cons, List.length_nil, List.set_cons_zero, List.set_cons_succ, gCat_nil, gCat_int, gCat_ref, if_pos, if_neg, Option.toList_some, Option.toList_none, List.cons_append, List.nil_append, B_nar, J1_nar, J0_nar, if_true, if_false, rd_wr_same, rd_wr_ne, true_and, and_true, B_0, B_1, not_true_eq_false, not_false_eq_true, m1, J_div, I_mod, J_ne0, hc]
  · rw [B_neg (fun q => h0 q.1)]
    simp (disch := first | omega | exact Nat.le_of_ble_eq_true rfl) only [e22_0, e22_1, e22_4, e22_7, e22_8, e22_11, e22_12, e22_13, e22_16, e22_17, e22_20, e22_21, e22_24, e22_25, e22_28, e22_29, J_add, J_sub, J_mul, J_neg, J_lt, J_le, J_eq, gArr_J, gAst_J, gSiz_J, gFld_o, gUpd_o0, gUpd_o1, gUpd_o2, gUpd_o3, gUpd_o4, gUpd_o5, gUpd_o6, gUpd_o7, gUpd_o8, gUpd_o9, gUpd_o10, gUpd_o11, gUpd_o12, gUpd_o13, gUpd_o14, gUpd_o15, gUpd_o16, gUpd_o17, gUpd_o18, gIsO_o, Option.bind_some, List.getElem?_cons_zero, List.getElem?_cons_succ, List.length_cons, List.length_nil, List.set_cons_zero, List.set_cons_succ, gCat_nil, gCat_int, gCat_ref, if_pos, if_neg, Option.toList_some, Option.toList_none, List.cons_append, List.nil_append, B_nar, J1_nar, J0_nar, if_true, if_false, rd_wr_same, rd_wr_ne, true_and, and_true, B_0, B_1, not_true_eq_false, not_false_eq_true, m1]

theorem s23 {nat : gNat} {d : Nat} {w : gWd} {m : Nat} {K : Lay} {x g : Int} (hm : isMe w m K) (hK : vK K) (hx : 0 ≤ x ∧ x < K 0 2) (hg : 0 ≤ g ∧ g < K 0 1) : gC nat (d + 2) 23 [.ref m, .int (J x), .int (J g)] w = some (some (.int (J (sew K x g))), w) := by
  rw [en23]
  obtain ⟨m0, m1, m2, m3, m4⟩ := id hm
  obtain ⟨k0, k1, k2, k3, k4, kg, kd, kr⟩ := id hK
  obtain ⟨q0, q1, q2, q3, q4, q5⟩ := kg g hg.1 hg.2
  obtain ⟨e0, e1, e2⟩ := kd x hx.1 hx.2
  have c0 := s19 (nat := nat) (d := d) (w := w) (m := m) (K := K) (g := x) (i := 0) hm (by omega) (by omega)
  have c1 := s18 (nat := nat) (d := d) (w := w) (m := m) (K := K) (g := g) (i := 0) hm (by omega) (by omega)
  have c2 := s18 (nat := nat) (d := d) (w := w) (m := m) (K := K) (g := g) (i := 4) hm (by omega) (by omega)
  rw [Int.add_zero] at c0 c1
  unfold sew
  by_cases h1 : K 1 (5 * g) = 1
  · by_cases h2 : K 2 (3 * x) = 1
    · simp (disch := first | omega | exact Nat.le_of_ble_eq_true rfl) only [e23_0, e23_1, e23_2, e23_3, e23_6, e23_7, e23_8, e23_9, e23_10, e23_13, e23_15, e23_17, e23_18, e23_21, e23_22, e23_23, e23_26, e23_27, e23_30, e23_31, e23_32, e23_33s0, e23_33s1, e23_33s2, e23_33d, e23_60, e23_61, e23_62, e23_63, e23_64, e23_66, e23_67, e23_70, e23_71, e23_74, e23_75, e23_76, e23_77, e23_78, e23_79, e23_82, e23_84, e23_87, e23_88, e23_91, e23_92, J_add, J_sub, J_mul, J_neg, J_lt, J_le, J_eq, gArr_J, gAst_J, gSiz_J, gFld_o, gUpd_o0, gUpd_o1, gUpd_o2, gUpd_o3, gUpd_o4, gUpd_o5, gUpd_o6, gUpd_o7, gUpd_o8, gUpd_o9, gUpd_o10, gUpd_o11, gUpd_o12, gUpd_o13, gUpd_o14, gUpd_o15, gUpd_o16, gUpd_o17, gUpd_o18, gIsO_o, Option.bind_some, List.getElem?_cons_zero, List.getElem?_cons_succ, List.length_cons, List.length_nil, List.set_cons_zero, List.set_cons_succ, gCat_nil, gCat_int, gCat_ref, if_pos, if_neg, Option.toList_some, Option.toList_none, List.cons_append, List.nil_append, B_nar, J1_nar, J0_nar, if_true, if_false, rd_wr_same, rd_wr_ne, true_and, and_true, B_0, B_1, not_true_eq_false, not_false_eq_true, m1, c0, c1, h1, h2]
    · simp (disch := first | omega | exact Nat.le_of_ble_eq_true rfl) only [e23_0, e23_1, e23_2, e23_3, e23_6, e23_7, e23_8, e23_9, e23_10, e23_13, e23_15, e23_17, e23_18, e23_21, e23_22, e23_23, e23_26, e23_27, e23_30, e23_31, e23_32, e23_33s0, e23_33s1, e23_33s2, e23_33d, e23_60, e23_61, e23_62, e23_63, e23_64, e23_66, e23_67, e23_70, e23_71, e23_74, e23_75, e23_76, e23_77, e23_78, e23_79, e23_82, e23_84, e23_87, e23_88, e23_91, e23_92, J_add, J_sub, J_mul, J_neg, J_lt, J_le, J_eq, gArr_J, gAst_J, gSiz_J, gFld_o, gUpd_o0, gUpd_o1, gUpd_o2, gUpd_o3, gUpd_o4, gUpd_o5, gUpd_o6, gUpd_o7, gUpd_o8, gUpd_o9, gUpd_o10, gUpd_o11, gUpd_o12, gUpd_o13, gUpd_o14, gUpd_o15, gUpd_o16, gUpd_o17, gUpd_o18, gIsO_o, Option.bind_some, List.getElem?_cons_zero, List.getElem?_cons_succ, List.length_cons, List.length_nil, List.set_cons_zero, List.set_cons_succ, gCat_nil, gCat_int, gCat_ref, if_pos, if_neg, Option.toList_some, Option.toList_none, List.cons_append, List.nil_append, B_nar, J1_nar, J0_nar, if_true, if_false, rd_wr_same, rd_wr_ne, true_and, and_true, B_0, B_1, not_true_eq_false, not_false_eq_true, m1, c0, c1, h1, h2]
  · have hk : K 2 (3 * x) = 0 ∨ K 2 (3 * x) = 1 ∨ K 2 (3 * x) = 2 ∨ K 2 (3 * x) = 3 := by omega
    rcases hk with h2 | h2 | h2 | h2
    · rw [h2] at c0
      simp (disch := first | omega | exact Nat.le_of_ble_eq_true rfl) only [e23_0, e23_1, e23_2, e23_3, e23_6, e23_7, e23_8, e23_9, e23_10, e23_13, e23_15, e23_17, e23_18, e23_21, e23_22, e23_23, e23_26, e23_27, e23_30, e23_31, e23_32, e23_33s0, e23_33s1, e23_33s2, e23_33d, e23_60, e23_61, e23_62, e23_63, e23_64, e23_66, e23_67, e23_70, e23_71, e23_74, e23_75, e23_76, e23_77, e23_78, e23_79, e23_82, e23_84, e23_87, e23_88, e23_91, e23_92, J_add, J_sub, J_mul, J_neg, J_lt, J_le, J_eq, gArr_J, gAst_J, gSiz_J, gFld_o, gUpd_o0, gUpd_o1, gUpd_o2, gUpd_o3, gUpd_o4, gUpd_o5, gUpd_o6, gUpd_o7, gUpd_o8, gUpd_o9, gUpd_o10, gUpd_o11, gUpd_o12, gUpd_o13, gUpd_o14, gUpd_o15, gUpd_o16, gUpd_o17, gUpd_o18, gIsO_o, Option.bind_some, List.getElem?_cons_zero, List.getElem?_cons_succ, List.length_cons, List.length_nil, List.set_cons_zero, List.set_cons_succ, gCat_nil, gCat_int, gCat_ref, if_pos, if_neg, Option.toList_some, Option.toList_none, List.cons_append, List.nil_append, B_nar, J1_nar, J0_nar, if_true, if_false, rd_wr_same, rd_wr_ne, true_and, and_true, B_0, B_1, not_true_eq_false, not_false_eq_true, m1, c0, c1, h1, h2]
    · rw [h2] at c0
      simp (disch := first | omega | exact Nat.le_of_ble_eq_true rfl) only [e23_0, e23_1, e23_2, e23_3, e23_6, e23_7, e23_8, e23_9, e23_10, e23_13, e23_15, e23_17, e23_18, e23_21, e23_22, e23_23, e23_26, e23_27, e23_30, e23_31, e23_32, e23_33s0, e23_33s1, e23_33s2, e23_33d, e23_60, e23_61, e23_62, e23_63, e23_64, e23_66, e23_67, e23_70, e23_71, e23_74, e23_75, e23_76, e23_77, e23_78, e23_79, e23_82, e23_84, e23_87, e23_88, e23_91, e23_92, J_add, J_sub, J_mul, J_neg, J_lt, J_le, J_eq, gArr_J, gAst_J, gSiz_J, gFld_o, gUpd_o0, gUpd_o1, gUpd_o2, gUpd_o3, gUpd_o4, gUpd_o5, gUpd_o6, gUpd_o7, gUpd_o8, gUpd_o9, gUpd_o10, gUpd_o11, gUpd_o12, gUpd_o13, gUpd_o14, gUpd_o15, gUpd_o16, gUpd_o17, gUpd_o18, gIsO_o, Option.bind_some, List.getElem?_cons_zero, List.getElem?_cons_succ, List.length_cons, List.length_nil, List.set_cons_zero, List.set_cons_succ, gCat_nil, gCat_int, gCat_ref, if_pos, if_neg, Option.toList_some, Option.toList_none, List.cons_append, List.nil_append, B_nar, J1_nar, J0_nar, if_true, if_false, rd_wr_same, rd_wr_ne, true_and, and_true, B_0, B_1, not_true_eq_false, not_false_eq_true, m1, c0, c1, h1, h2]
    · rw [h2] at c0
      by_cases h3 : K 1 (5 * g) = 3
      · simp (disch := first | omega | exact Nat.le_of_ble_eq_true rfl) only [e23_0, e23_1, e23_2, e23_3, e23_6, e23_7, e23_8, e23_9, e23_10, e23_13, e23_15, e23_17, e23_18, e23_21, e23_22, e23_23, e23_26, e23_27, e23_30, e23_31, e23_32, e23_33s0, e23_33s1, e23_33s2, e23_33d, e23_60, e23_61, e23_62, e23_63, e23_64, e23_66, e23_67, e23_70, e23_71, e23_74, e23_75, e23_76, e23_77, e23_78, e23_79, e23_82, e23_84, e23_87, e23_88, e23_91, e23_92, J_add, J_sub, J_mul, J_neg, J_lt, J_le, J_eq, gArr_J, gAst_J, gSiz_J, gFld_o, gUpd_o0, gUpd_o1, gUpd_o2, gUpd_o3, gUpd_o4, gUpd_o5, gUpd_o6, gUpd_o7, gUpd_o8, gUpd_o9, gUpd_o10, gUpd_o11, gUpd_o12, gUpd_o13, gUpd_o14, gUpd_o15, gUpd_o16, gUpd_o17, gUpd_o18, gIsO_o, Option.bind_some, List.getElem?_cons_zero, List.getElem?_cons_succ, List.length_cons, List.length_nil, List.set_cons_zero, List.set_cons_succ, gCat_nil, gCat_int, gCat_ref, if_pos, if_neg, Option.toList_some, Option.toList_none, List.cons_append, List.nil_append, B_nar, J1_nar, J0_nar, if_true, if_false, rd_wr_same, rd_wr_ne, true_and, and_true, B_0, B_1, not_true_eq_false, not_false_eq_true, m1, c0, c1, h1, h2, h3]
      · simp (disch := first | omega | exact Nat.le_of_ble_eq_true rfl) only [e23_0, e23_1, e23_2, e23_3, e23_6, e23_7, e23_8, e23_9, e23_10, e23_13, e23_15, e23_17, e23_18, e23_21, e23_22, e23_23, e23_26, e23_27, e23_30, e23_31, e23_32, e23_33s0, e23_33s1, e23_33s2, e23_33d, e23_60, e23_61, e23_62, e23_63, e23_64, e23_66, e23_67, e23_70, e23_71, e23_74, e23_75, e23_76, e23_77, e23_78, e23_79, e23_82, e23_84, e23_87, e23_88, e23_91, e23_92, J_add, J_sub, J_mul, J_neg, J_lt, J_le, J_eq, gArr_J, gAst_J, gSiz_J, gFld_o, gUpd_o0, gUpd_o1, gUpd_o2, gUpd_o3, gUpd_o4, gUpd_o5, gUpd_o6, gUpd_o7, gUpd_o8, gUpd_o9, gUpd_o10, gUpd_o11, gUpd_o12, gUpd_o13, gUpd_o14, gUpd_o15, gUpd_o16, gUpd_o17, gUpd_o18, gIsO_o, Option.bind_some, List.getElem?_cons_zero, List.getElem?_cons_succ, List.length_cons, List.length_nil, List.set_cons_zero, List.set_cons_succ, gCat_nil, gCat_int, gCat_ref, if_pos, if_neg, Option.toList_some, Option.toList_none, List.cons_append, List.nil_append, B_nar, J1_nar, J0_nar, if_true, if_false, rd_wr_same, rd_wr_ne, true_and, and_true, B_0, B_1, not_true_eq_false, not_false_eq_true, m1, c0, c1, h1, h2, h3]
    · rw [h2] at c0
      have hd3 : (J 3).toInt < 0 ∨ 2 < (J 3).toInt := by decide +kernel
      by_cases h3 : 6 < K 1 (5 * g + 4)
      · simp (disch := first | omega | exact Nat.le_of_ble_eq_true rfl) only [e23_0, e23_1, e23_2, e23_3, e23_6, e23_7, e23_8, e23_9, e23_10, e23_13, e23_15, e23_17, e23_18, e23_21, e23_22, e23_23, e23_26, e23_27, e23_30, e23_31, e23_32, e23_33s0, e23_33s1, e23_33s2, e23_33d, e23_60, e23_61, e23_62, e23_63, e23_64, e23_66, e23_67, e23_70, e23_71, e23_74, e23_75, e23_76, e23_77, e23_78, e23_79, e23_82, e23_84, e23_87, e23_88, e23_91, e23_92, J_add, J_sub, J_mul, J_neg, J_lt, J_le, J_eq, gArr_J, gAst_J, gSiz_J, gFld_o, gUpd_o0, gUpd_o1, gUpd_o2, gUpd_o3, gUpd_o4, gUpd_o5, gUpd_o6, gUpd_o7, gUpd_o8, gUpd_o9, gUpd_o10, gUpd_o11, gUpd_o12, gUpd_o13, gUpd_o14, gUpd_o15, gUpd_o16, gUpd_o17, gUpd_o18, gIsO_o, Option.bind_some, List.getElem?_cons_zero, List.getElem?_cons_succ, List.length_cons, List.length_nil, List.set_cons_zero, List.set_cons_succ, gCat_nil, gCat_int, gCat_ref, if_pos, if_neg, Option.toList_some, Option.toList_none, List.cons_append, List.nil_append, B_nar, J1_nar, J0_nar, if_true, if_false, rd_wr_same, rd_wr_ne, true_and, and_true, B_0, B_1, not_true_eq_false, not_false_eq_true, m1, c0, c1, c2, h1, h2, h3]
      · simp (disch := first | omega | exact Nat.le_of_ble_eq_true rfl) only [e23_0, e23_1, e23_2, e23_3, e23_6, e23_7, e23_8, e23_9, e23_10, e23_13, e23_15, e23_17, e23_18, e23_21, e23_22, e23_23, e23_26, e23_27, e23_30, e23_31, e23_32, e23_33s0, e23_33s1, e23_33s2, e23_33d, e23_60, e23_61, e23_62, e23_63, e23_64, e23_66, e23_67, e23_70, e23_71, e23_74, e23_75, e23_76, e23_77, e23_78, e23_79, e23_82, e23_84, e23_87, e23_88, e23_91, e23_92, J_add, J_sub, J_mul, J_neg, J_lt, J_le, J_eq, gArr_J, gAst_J, gSiz_J, gFld_o, gUpd_o0, gUpd_o1, gUpd_o2, gUpd_o3, gUpd_o4, gUpd_o5, gUpd_o6, gUpd_o7, gUpd_o8, gUpd_o9, gUpd_o10, gUpd_o11, gUpd_o12, gUpd_o13, gUpd_o14, gUpd_o15, gUpd_o16, gUpd_o17, gUpd_o18, gIsO_o, Option.bind_some, List.getElem?_cons_zero, List.getElem?_cons_succ, List.length_cons, List.length_nil, List.set_cons_zero, List.set_cons_succ, gCat_nil, gCat_int, gCat_ref, if_pos, if_neg, Option.toList_some, Option.toList_none, List.cons_append, List.nil_append, B_nar, J1_nar, J0_nar, if_true, if_false, rd_wr_same, rd_wr_ne, true_and, and_true, B_0, B_1, not_true_eq_false, not_false_eq_true, m1, c0, c1, c2, h1, h2, h3]
