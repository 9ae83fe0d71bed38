theorem l71 {nat : gNat} {d : Nat} {w : gWd} {a m : Nat} {K : Lay} (hm : isMe w m K) (hK : vK K) (ho : m + 3 < a ∨ a + 3 < m) (ha : a + 3 < gSTR) {S : Lay} (hS : vS K S) {z : Option Value} {N : Nat} (hN : (N : Int) = K 0 2) : ∀ (k n : Nat), n + k = N → gX (gC nat (d + 3)) nat 71 13 [some (.ref a), some (.ref m), z, some (.int (J n))] [] [] (putS w a (flies K S n)) = gX (gC nat (d + 3)) nat 71 33 [some (.ref a), some (.ref m), z, some (.int (J N))] [] [] (putS w a (flies K S N)) := by
  have hm' : ∀ S, isMe (putS w a S) m K := fun S => isMe_putS ho hm
  obtain ⟨m0, m1, m2, m3, m4⟩ := id hm
  obtain ⟨k0, k1, k2, k3, k4, kg, kd, kr⟩ := id hK
  have a1 : a + 1 < gSTR := by omega
  have a2 : a + 2 < gSTR := by omega
  have r0 : ∀ S, rd (putS w a S) m = oC 2 [.int (J (K 0 0)), .int (J (K 0 1)), .int (J (K 0 2)), .int (J (K 0 3)), .int (J (K 0 4)), .ref (m + 1), .ref (m + 2), .ref (m + 3)] := fun S => (hm' S).2.1
  intro k
  induction k with
  | zero =>
    intro n hn
    rw [Nat.add_zero] at hn
    subst hn
    rw [e71_13]
    simp (disch := first | exact hm' _ | assumption | omega | exact Nat.le_of_ble_eq_true rfl) only [e71_0, e71_1, e71_2, e71_5, e71_8, e71_11, e71_12, e71_13, e71_14, e71_15, e71_18, e71_21, e71_22, e71_23, e71_24, e71_27, e71_30, e71_34, e71_37, e71_38, e71_39, e71_42, e71_43, e71_43i, e71_44, e71_47, e71_48, e71_49, e71_52, J_add, J_sub, J_mul, J_neg, J_lt, J_le, J_eq, gArr_J, gAst_J, gSiz_J, gFld_o, gUpd_o0, gUpd_o1, gUpd_o2, gUpd_o3, gUpd_o4, gUpd_o5, gUpd_o6, gUpd_o7, gUpd_o8, gUpd_o9, gUpd_o10, gUpd_o11, gUpd_o12, gUpd_o13, gUpd_o14, gUpd_o15, gUpd_o16, gUpd_o17, gUpd_o18, gIsO_o, Option.bind_some, List.getElem?_cons_zero, List.getElem?_cons_succ, List.length_cons, List.length_nil, List.set_cons_zero, List.set_cons_succ, gCat_nil, gCat_int, gCat_ref, if_pos, if_neg, Option.toList_some, Option.toList_none, List.cons_append, List.nil_append, B_nar, J1_nar, J0_nar, if_true, if_false, rd_wr_same, rd_wr_ne, true_and, and_true, B_0, B_1, not_true_eq_false, not_false_eq_true, rdP0, rdP1, rdP2, rdP3, wP0, wP1, wP2, wP3, Nat.reduceAdd, r0, hN]
  | succ k ih =>
    intro n hn
    have hv := vS_flies hK hS n (by omega)
    have c1 := s72 (nat := nat) (d := d) (w := w) (S := flies K S n) hm hK ho ha hv (x := n) (by omega)
    rw [e71_13]
    simp (disch := first | exact hm' _ | assumption | omega | exact Nat.le_of_ble_eq_true rfl) only [e71_0, e71_1, e71_2, e71_5, e71_8, e71_11, e71_12, e71_14, e71_15, e71_18, e71_21, e71_22, e71_23, e71_24, e71_27, e71_30, e71_34, e71_37, e71_38, e71_39, e71_42, e71_43, e71_43i, e71_44, e71_47, e71_48, e71_49, e71_52, J_add, J_sub, J_mul, J_neg, J_lt, J_le, J_eq, gArr_J, gAst_J, gSiz_J, gFld_o, gUpd_o0, gUpd_o1, gUpd_o2, gUpd_o3, gUpd_o4, gUpd_o5, gUpd_o6, gUpd_o7, gUpd_o8, gUpd_o9, gUpd_o10, gUpd_o11, gUpd_o12, gUpd_o13, gUpd_o14, gUpd_o15, gUpd_o16, gUpd_o17, gUpd_o18, gIsO_o, Option.bind_some, List.getElem?_cons_zero, List.getElem?_cons_succ, List.length_cons, List.length_nil, List.set_cons_zero, List.set_cons_succ, gCat_nil, gCat_int, gCat_ref, if_pos, if_neg, Option.toList_some, Option.toList_none, List.cons_append, List.nil_append, B_nar, J1_nar, J0_nar, if_true, if_false, rd_wr_same, rd_wr_ne, true_and, and_true, B_0, B_1, not_true_eq_false, not_false_eq_true, rdP0, rdP1, rdP2, rdP3, wP0, wP1, wP2, wP3, Nat.reduceAdd, r0, c1]
    have := ih (n + 1) (by omega)
    rw [flies, show ((n + 1 : Nat) : Int) = (n : Int) + 1 from rfl] at this
    exact this
theorem t71 {nat : gNat} {d : Nat} {w : gWd} {a m : Nat} {K : Lay} (hm : isMe w m K) (hK : vK K) (ho : m + 3 < a ∨ a + 3 < m) (ha : a + 3 < gSTR) {S : Lay} (hS : vS K S) (hh : S 0 0 < 2000000000) {r : Prop} [Decidable r] {z : Option Value} : gX (gC nat (d + 3)) nat 71 33 [some (.ref a), some (.ref m), some (.int (B r)), z] [] [] (putS w a S) = some (none, putS w a (sset (if r then unp K S else S) 0 0 (S 0 0 + 1))) := by
  have hm' : ∀ S, isMe (putS w a S) m K := fun S => isMe_putS ho hm
  obtain ⟨m0, m1, m2, m3, m4⟩ := id hm
  obtain ⟨k0, k1, k2, k3, k4, kg, kd, kr⟩ := id hK
  have a1 : a + 1 < gSTR := by omega
  have a2 : a + 2 < gSTR := by omega
  have r0 : ∀ S, rd (putS w a S) m = oC 2 [.int (J (K 0 0)), .int (J (K 0 1)), .int (J (K 0 2)), .int (J (K 0 3)), .int (J (K 0 4)), .ref (m + 1), .ref (m + 2), .ref (m + 3)] := fun S => (hm' S).2.1
  have h0 := hS.1
  have c1 := s74 (nat := nat) (d := d) (w := w) (S := S) hm hK ho ha (fun g g1 g2 => by
    have := hS.2.1 g g1 g2
    have := (kg g g1 g2).2.2.2.2.2
    omega)
  by_cases h : r
  · rw [B_pos h, if_pos h]
    have e1 : (unp K S) 0 0 = S 0 0 := by rw [unp_h]
    simp (disch := first | exact hm' _ | assumption | omega | exact Nat.le_of_ble_eq_true rfl) only [e71_0, e71_1, e71_2, e71_5, e71_8, e71_11, e71_12, e71_13, e71_14, e71_15, e71_18, e71_21, e71_22, e71_23, e71_24, e71_27, e71_30, e71_33, e71_34, e71_37, e71_38, e71_39, e71_42, e71_43, e71_43i, e71_44, e71_47, e71_48, e71_49, e71_52, J_add, J_sub, J_mul, J_neg, J_lt, J_le, J_eq, gArr_J, gAst_J, gSiz_J, gFld_o, gUpd_o0, gUpd_o1, gUpd_o2, gUpd_o3, gUpd_o4, gUpd_o5, gUpd_o6, gUpd_o7, gUpd_o8, gUpd_o9, gUpd_o10, gUpd_o11, gUpd_o12, gUpd_o13, gUpd_o14, gUpd_o15, gUpd_o16, gUpd_o17, gUpd_o18, gIsO_o, Option.bind_some, List.getElem?_cons_zero, List.getElem?_cons_succ, List.length_cons, List.length_nil, List.set_cons_zero, List.set_cons_succ, gCat_nil, gCat_int, gCat_ref, if_pos, if_neg, Option.toList_some, Option.toList_none, List.cons_append, List.nil_append, B_nar, J1_nar, J0_nar, if_true, if_false, rd_wr_same, rd_wr_ne, true_and, and_true, B_0, B_1, not_true_eq_false, not_false_eq_true, rdP0, rdP1, rdP2, rdP3, wP0, wP1, wP2, wP3, Nat.reduceAdd, r0, c1, e1]
  · rw [B_neg h, if_neg h]
    simp (disch := first | exact hm' _ | assumption | omega | exact Nat.le_of_ble_eq_true rfl) only [e71_0, e71_1, e71_2, e71_5, e71_8, e71_11, e71_12, e71_13, e71_14, e71_15, e71_18, e71_21, e71_22, e71_23, e71_24, e71_27, e71_30, e71_33, e71_34, e71_37, e71_38, e71_39, e71_42, e71_43, e71_43i, e71_44, e71_47, e71_48, e71_49, e71_52, J_add, J_sub, J_mul, J_neg, J_lt, J_le, J_eq, gArr_J, gAst_J, gSiz_J, gFld_o, gUpd_o0, gUpd_o1, gUpd_o2, gUpd_o3, gUpd_o4, gUpd_o5, gUpd_o6, gUpd_o7, gUpd_o8, gUpd_o9, gUpd_o10, gUpd_o11, gUpd_o12, gUpd_o13, gUpd_o14, gUpd_o15, gUpd_o16, gUpd_o17, gUpd_o18, gIsO_o, Option.bind_some, List.getElem?_cons_zero, List.getElem?_cons_succ, List.length_cons, List.length_nil, List.set_cons_zero, List.set_cons_succ, gCat_nil, gCat_int, gCat_ref, if_pos, if_neg, Option.toList_some, Option.toList_none, List.cons_append, List.nil_append, B_nar, J1_nar, J0_nar, if_true, if_false, rd_wr_same, rd_wr_ne, true_and, and_true, B_0, B_1, not_true_eq_false, not_false_eq_true, rdP0, rdP1, rdP2, rdP3, wP0, wP1, wP2, wP3, Nat.reduceAdd, r0, c1]

theorem s71 {nat : gNat} {d : Nat} {w : gWd} {a m : Nat} {S K : Lay} (hm : isMe w m K) (hK : vK K) (ho : m + 3 < a ∨ a + 3 < m) (ha : a + 3 < gSTR) (hS : vS K S) (hh : S 0 0 < 2000000000) {r : Prop} [Decidable r] : gC nat (d + 4) 71 [.ref a, .ref m, .int (B r)] (putS w a S) = some (none, putS w a (live K S r)) := by
  rw [en71]
  have hm' : ∀ S, isMe (putS w a S) m K := fun S => isMe_putS ho hm
  obtain ⟨m0, m1, m2, m3, m4⟩ := id hm
  obtain ⟨k0, k1, k2, k3, k4, kg, kd, kr⟩ := id hK
  have a1 : a + 1 < gSTR := by omega
  have a2 : a + 2 < gSTR := by omega
  have r0 : ∀ S, rd (putS w a S) m = oC 2 [.int (J (K 0 0)), .int (J (K 0 1)), .int (J (K 0 2)), .int (J (K 0 3)), .int (J (K 0 4)), .ref (m + 1), .ref (m + 2), .ref (m + 3)] := fun S => (hm' S).2.1
  have h0 := hS.1
  have c1 := s20 (nat := nat) (d := d + 2) (w := putS w a S) (m := m) (K := K) (h := S 0 0) (hm' S) hK (by omega)
  have hN : (((K 0 2).toNat : Nat) : Int) = K 0 2 := by omega
  unfold live
  by_cases h : S 0 0 % 24 < K 0 3
  · rw [B_pos h] at c1
    rw [if_pos h]
    simp (disch := first | exact hm' _ | assumption | omega | exact Nat.le_of_ble_eq_true rfl) only [e71_0, e71_1, e71_2, e71_5, e71_8, e71_11, e71_12, e71_14, e71_15, e71_18, e71_21, e71_22, e71_23, e71_24, e71_27, e71_30, e71_34, e71_37, e71_38, e71_39, e71_42, e71_43, e71_43i, e71_44, e71_47, e71_48, e71_49, e71_52, J_add, J_sub, J_mul, J_neg, J_lt, J_le, J_eq, gArr_J, gAst_J, gSiz_J, gFld_o, gUpd_o0, gUpd_o1, gUpd_o2, gUpd_o3, gUpd_o4, gUpd_o5, gUpd_o6, gUpd_o7, gUpd_o8, gUpd_o9, gUpd_o10, gUpd_o11, gUpd_o12, gUpd_o13, gUpd_o14, gUpd_o15, gUpd_o16, gUpd_o17, gUpd_o18, gIsO_o, Option.bind_some, List.getElem?_cons_zero, List.getElem?_cons_succ, List.length_cons, List.length_nil, List.set_cons_zero, List.set_cons_succ, gCat_nil, gCat_int, gCat_ref, if_pos, if_neg, Option.toList_some, Option.toList_none, List.cons_append, List.nil_append, B_nar, J1_nar, J0_nar, if_true, if_false, rd_wr_same, rd_wr_ne, true_and, and_true, B_0, B_1, not_true_eq_false, not_false_eq_true, rdP0, rdP1, rdP2, rdP3, wP0, wP1, wP2, wP3, Nat.reduceAdd, r0, c1]
    have h2 := l71 (nat := nat) (d := d) hm hK ho ha hS (z := some (.int (B r))) hN (K 0 2).toNat 0 (by omega)
    rw [flies] at h2
    refine h2.trans ?_
    have hf := vS_flies hK hS (K 0 2).toNat (by omega)
    have e1 : (flies K S (K 0 2).toNat) 0 0 = S 0 0 := by rw [flies_h]
    rw [t71 hm hK ho ha hf (by rw [e1]; exact hh), e1]
  · rw [B_neg h] at c1
    rw [if_neg h]
    simp (disch := first | exact hm' _ | assumption | omega | exact Nat.le_of_ble_eq_true rfl) only [e71_0, e71_1, e71_2, e71_5, e71_8, e71_11, e71_12, e71_14, e71_15, e71_18, e71_21, e71_22, e71_23, e71_24, e71_27, e71_30, e71_34, e71_37, e71_38, e71_39, e71_42, e71_43, e71_43i, e71_44, e71_47, e71_48, e71_49, e71_52, J_add, J_sub, J_mul, J_neg, J_lt, J_le, J_eq, gArr_J, gAst_J, gSiz_J, gFld_o, gUpd_o0, gUpd_o1, gUpd_o2, gUpd_o3, gUpd_o4, gUpd_o5, gUpd_o6, gUpd_o7, gUpd_o8, gUpd_o9, gUpd_o10, gUpd_o11, gUpd_o12, gUpd_o13, gUpd_o14, gUpd_o15, gUpd_o16, gUpd_o17, gUpd_o18, gIsO_o, Option.bind_some, List.getElem?_cons_zero, List.getElem?_cons_succ, List.length_cons, List.length_nil, List.set_cons_zero, List.set_cons_succ, gCat_nil, gCat_int, gCat_ref, if_pos, if_neg, Option.toList_some, Option.toList_none, List.cons_append, List.nil_append, B_nar, J1_nar, J0_nar, if_true, if_false, rd_wr_same, rd_wr_ne, true_and, and_true, B_0, B_1, not_true_eq_false, not_false_eq_true, rdP0, rdP1, rdP2, rdP3, wP0, wP1, wP2, wP3, Nat.reduceAdd, r0, c1]
    exact t71 hm hK ho ha hS hh

theorem l69 {nat : gNat} {d : Nat} {w : gWd} {a m : Nat} {K : Lay} (hm : isMe w m K) (hK : vK K) (ho : m + 3 < a ∨ a + 3 < m) (ha : a + 3 < gSTR) {S : Lay} (hS : vS K S) {N : Nat} (hh : S 0 0 + N < 2000000000) : ∀ (k n : Nat), n + k = N → gX (gC nat (d + 4)) nat 69 2 [some (.ref a), some (.ref m), some (.int (J N)), some (.int (J n))] [] [] (putS w a (lives K S n)) = some (none, putS w a (lives K S N)) := by
  have hm' : ∀ S, isMe (putS w a S) m K := fun S => isMe_putS ho hm
  obtain ⟨m0, m1, m2, m3, m4⟩ := id hm
  obtain ⟨k0, k1, k2, k3, k4, kg, kd, kr⟩ := id hK
  have a1 : a + 1 < gSTR := by omega
  have a2 : a + 2 < gSTR := by omega
  have r0 : ∀ S, rd (putS w a S) m = oC 2 [.int (J (K 0 0)), .int (J (K 0 1)), .int (J (K 0 2)), .int (J (K 0 3)), .int (J (K 0 4)), .ref (m + 1), .ref (m + 2), .ref (m + 3)] := fun S => (hm' S).2.1
  have hs0 := hS.1
  intro k
  induction k with
  | zero =>
    intro n hn
    rw [Nat.add_zero] at hn
    subst hn
    simp (disch := first | exact hm' _ | assumption | omega | exact Nat.le_of_ble_eq_true rfl) only [e69_0, e69_1, e69_2, e69_3, e69_4, e69_7, e69_8, e69_9, e69_10, e69_11, e69_14, e69_17, e69_20, e69_23, e69_26, J_add, J_sub, J_mul, J_neg, J_lt, J_le, J_eq, gArr_J, gAst_J, gSiz_J, gFld_o, gUpd_o0, gUpd_o1, gUpd_o2, gUpd_o3, gUpd_o4, gUpd_o5, gUpd_o6, gUpd_o7, gUpd_o8, gUpd_o9, gUpd_o10, gUpd_o11, gUpd_o12, gUpd_o13, gUpd_o14, gUpd_o15, gUpd_o16, gUpd_o17, gUpd_o18, gIsO_o, Option.bind_some, List.getElem?_cons_zero, List.getElem?_cons_succ, List.length_cons, List.length_nil, List.set_cons_zero, List.set_cons_succ, gCat_nil, gCat_int, gCat_ref, if_pos, if_neg, Option.toList_some, Option.toList_none, List.cons_append, List.nil_append, B_nar, J1_nar, J0_nar, if_true, if_false, rd_wr_same, rd_wr_ne, true_and, and_true, B_0, B_1, not_true_eq_false, not_false_eq_true, rdP0, rdP1, rdP2, rdP3, wP0, wP1, wP2, wP3, Nat.reduceAdd, r0]
  | succ k ih =>
    intro n hn
    have hv := vS_lives hK hS n
    have hl := lives_h K S n
    have c1 := s22 (nat := nat) (d := d + 2) (w := putS w a (lives K S n)) (m := m) (K := K) (h := (lives K S n) 0 0) (hm' _) hK (by omega)
    have c2 := s71 (nat := nat) (d := d) (w := w) (S := lives K S n) hm hK ho ha hv (by omega) (r := 0 < K 0 4 ∧ K 3 ((lives K S n) 0 0 % K 0 4) = 1)
    rw [e69_2]
    simp (disch := first | exact hm' _ | assumption | omega | exact Nat.le_of_ble_eq_true rfl) only [e69_0, e69_1, e69_3, e69_4, e69_7, e69_8, e69_9, e69_10, e69_11, e69_14, e69_17, e69_20, e69_23, e69_26, J_add, J_sub, J_mul, J_neg, J_lt, J_le, J_eq, gArr_J, gAst_J, gSiz_J, gFld_o, gUpd_o0, gUpd_o1, gUpd_o2, gUpd_o3, gUpd_o4, gUpd_o5, gUpd_o6, gUpd_o7, gUpd_o8, gUpd_o9, gUpd_o10, gUpd_o11, gUpd_o12, gUpd_o13, gUpd_o14, gUpd_o15, gUpd_o16, gUpd_o17, gUpd_o18, gIsO_o, Option.bind_some, List.getElem?_cons_zero, List.getElem?_cons_succ, List.length_cons, List.length_nil, List.set_cons_zero, List.set_cons_succ, gCat_nil, gCat_int, gCat_ref, if_pos, if_neg, Option.toList_some, Option.toList_none, List.cons_append, List.nil_append, B_nar, J1_nar, J0_nar, if_true, if_false, rd_wr_same, rd_wr_ne, true_and, and_true, B_0, B_1, not_true_eq_false, not_false_eq_true, rdP0, rdP1, rdP2, rdP3, wP0, wP1, wP2, wP3, Nat.reduceAdd, r0, c1, c2]
    have := ih (n + 1) (by omega)
    rw [lives, show ((n + 1 : Nat) : Int) = (n : Int) + 1 from rfl] at this
    exact this

theorem s69 {nat : gNat} {d : Nat} {w : gWd} {a m : Nat} {S K : Lay} (hm : isMe w m K) (hK : vK K) (ho : m + 3 < a ∨ a + 3 < m) (ha : a + 3 < gSTR) (hS : vS K S) {N : Nat} (hh : S 0 0 + N < 2000000000) : gC nat (d + 5) 69 [.ref a, .ref m, .int (J N)] (putS w a S) = some (none, putS w a (lives K S N)) := by
  rw [en69, e69_0, e69_1]
  have := l69 (nat := nat) (d := d) hm hK ho ha hS hh N 0 (by omega)
  rw [lives] at this
  exact this

/-- the first hour of so many behind which a gap is closed; how many were lived through -/
def cfr (K S : Lay) (g : Int) : Nat → Nat → Int × Nat
  | i, 0 => if K 1 (5 * g + 4) ≤ (lives K S i) 1 g then ((i : Int), i) else (-4, i)
  | i, k + 1 => if K 1 (5 * g + 4) ≤ (lives K S i) 1 g then ((i : Int), i) else cfr K S g (i + 1) k
theorem l70 {nat : gNat} {d : Nat} {w : gWd} {a m : Nat} {K : Lay} (hm : isMe w m K) (hK : vK K) (ho : m + 3 < a ∨ a + 3 < m) (ha : a + 3 < gSTR) {S : Lay} (hS : vS K S) {g : Int} (hg : 0 ≤ g ∧ g < K 0 1) {N : Nat} (hh : S 0 0 + N < 2000000000) : ∀ (k n : Nat), n + k = N → gX (gC nat (d + 4)) nat 70 3 [some (.ref a), some (.ref m), some (.int (J g)), some (.int (J N)), some (.int (J n))] [] [] (putS w a (lives K S n)) = some (some (.int (J (cfr K S g n k).1)), putS w a (lives K S (cfr K S g n k).2)) := by
  have hm' : ∀ S, isMe (putS w a S) m K := fun S => isMe_putS ho hm
  obtain ⟨m0, m1, m2, m3, m4⟩ := id hm
  obtain ⟨k0, k1, k2, k3, k4, kg, kd, kr⟩ := id hK
  have a1 : a + 1 < gSTR := by omega
  have a2 : a + 2 < gSTR := by omega
  have r0 : ∀ S, rd (putS w a S) m = oC 2 [.int (J (K 0 0)), .int (J (K 0 1)), .int (J (K 0 2)), .int (J (K 0 3)), .int (J (K 0 4)), .ref (m + 1), .ref (m + 2), .ref (m + 3)] := fun S => (hm' S).2.1
  have hs0 := hS.1
  intro k
  induction k with
  | zero =>
    intro n hn
    rw [Nat.add_zero] at hn
    subst hn
    have hv := vS_lives hK hS n
    have h20 := (kg g hg.1 hg.2).2.2.2.2.2
    have hv1 := hv.2.1 g hg.1 hg.2
    have c0 := s62 (nat := nat) (d := d + 2) (w := w) (S := lives K S n) hm hK ho ha (g := g) hg (by omega)
    unfold cfr
    by_cases h : K 1 (5 * g + 4) ≤ (lives K S n) 1 g
    · rw [B_pos h] at c0
      rw [if_pos h]
      simp (disch := first | exact hm' _ | assumption | omega | exact Nat.le_of_ble_eq_true rfl) only [e70_0, e70_1, e70_3, e70_5, e70_6, e70_9, e70_10, e70_11, e70_12, e70_15, e70_18, e70_20, e70_21, e70_22, e70_23, e70_24, e70_25, e70_28, e70_31, e70_34, e70_37, e70_40, e70_41, e70_42, e70_43, e70_46, e70_49, e70_50, e70_53, e70_55, J_add, J_sub, J_mul, J_neg, J_lt, J_le, J_eq, gArr_J, gAst_J, gSiz_J, gFld_o, gUpd_o0, gUpd_o1, gUpd_o2, gUpd_o3, gUpd_o4, gUpd_o5, gUpd_o6, gUpd_o7, gUpd_o8, gUpd_o9, gUpd_o10, gUpd_o11, gUpd_o12, gUpd_o13, gUpd_o14, gUpd_o15, gUpd_o16, gUpd_o17, gUpd_o18, gIsO_o, Option.bind_some, List.getElem?_cons_zero, List.getElem?_cons_succ, List.length_cons, List.length_nil, List.set_cons_zero, List.set_cons_succ, gCat_nil, gCat_int, gCat_ref, if_pos, if_neg, Option.toList_some, Option.toList_none, List.cons_append, List.nil_append, B_nar, J1_nar, J0_nar, if_true, if_false, rd_wr_same, rd_wr_ne, true_and, and_true, B_0, B_1, not_true_eq_false, not_false_eq_true, rdP0, rdP1, rdP2, rdP3, wP0, wP1, wP2, wP3, Nat.reduceAdd, r0, c0]
    · rw [B_neg h] at c0
      rw [if_neg h]
      simp (disch := first | exact hm' _ | assumption | omega | exact Nat.le_of_ble_eq_true rfl) only [e70_0, e70_1, e70_3, e70_5, e70_6, e70_9, e70_10, e70_11, e70_12, e70_15, e70_18, e70_20, e70_21, e70_22, e70_23, e70_24, e70_25, e70_28, e70_31, e70_34, e70_37, e70_40, e70_41, e70_42, e70_43, e70_46, e70_49, e70_50, e70_53, e70_55, J_add, J_sub, J_mul, J_neg, J_lt, J_le, J_eq, gArr_J, gAst_J, gSiz_J, gFld_o, gUpd_o0, gUpd_o1, gUpd_o2, gUpd_o3, gUpd_o4, gUpd_o5, gUpd_o6, gUpd_o7, gUpd_o8, gUpd_o9, gUpd_o10, gUpd_o11, gUpd_o12, gUpd_o13, gUpd_o14, gUpd_o15, gUpd_o16, gUpd_o17, gUpd_o18, gIsO_o, Option.bind_some, List.getElem?_cons_zero, List.getElem?_cons_succ, List.length_cons, List.length_nil, List.set_cons_zero, List.set_cons_succ, gCat_nil, gCat_int, gCat_ref, if_pos, if_neg, Option.toList_some, Option.toList_none, List.cons_append, List.nil_append, B_nar, J1_nar, J0_nar, if_true, if_false, rd_wr_same, rd_wr_ne, true_and, and_true, B_0, B_1, not_true_eq_false, not_false_eq_true, rdP0, rdP1, rdP2, rdP3, wP0, wP1, wP2, wP3, Nat.reduceAdd, r0, c0]
  | succ k ih =>
    intro n hn
    have hv := vS_lives hK hS n
    have hl := lives_h K S n
    have h20 := (kg g hg.1 hg.2).2.2.2.2.2
    have hv1 := hv.2.1 g hg.1 hg.2
    have c0 := s62 (nat := nat) (d := d + 2) (w := w) (S := lives K S n) hm hK ho ha (g := g) hg (by omega)
    have c1 := s22 (nat := nat) (d := d + 2) (w := putS w a (lives K S n)) (m := m) (K := K) (h := (lives K S n) 0 0) (hm' _) hK (by omega)
    have c2 := s71 (nat := nat) (d := d) (w := w) (S := lives K S n) hm hK ho ha hv (by omega) (r := 0 < K 0 4 ∧ K 3 ((lives K S n) 0 0 % K 0 4) = 1)
    unfold cfr
    by_cases h : K 1 (5 * g + 4) ≤ (lives K S n) 1 g
    · rw [B_pos h] at c0
      rw [if_pos h]
      simp (disch := first | exact hm' _ | assumption | omega | exact Nat.le_of_ble_eq_true rfl) only [e70_0, e70_1, e70_3, e70_5, e70_6, e70_9, e70_10, e70_11, e70_12, e70_15, e70_18, e70_20, e70_21, e70_22, e70_23, e70_24, e70_25, e70_28, e70_31, e70_34, e70_37, e70_40, e70_41, e70_42, e70_43, e70_46, e70_49, e70_50, e70_53, e70_55, J_add, J_sub, J_mul, J_neg, J_lt, J_le, J_eq, gArr_J, gAst_J, gSiz_J, gFld_o, gUpd_o0, gUpd_o1, gUpd_o2, gUpd_o3, gUpd_o4, gUpd_o5, gUpd_o6, gUpd_o7, gUpd_o8, gUpd_o9, gUpd_o10, gUpd_o11, gUpd_o12, gUpd_o13, gUpd_o14, gUpd_o15, gUpd_o16, gUpd_o17, gUpd_o18, gIsO_o, Option.bind_some, List.getElem?_cons_zero, List.getElem?_cons_succ, List.length_cons, List.length_nil, List.set_cons_zero, List.set_cons_succ, gCat_nil, gCat_int, gCat_ref, if_pos, if_neg, Option.toList_some, Option.toList_none, List.cons_append, List.nil_append, B_nar, J1_nar, J0_nar, if_true, if_false, rd_wr_same, rd_wr_ne, true_and, and_true, B_0, B_1, not_true_eq_false, not_false_eq_true, rdP0, rdP1, rdP2, rdP3, wP0, wP1, wP2, wP3, Nat.reduceAdd, r0, c0]
    · rw [B_neg h] at c0
      rw [if_neg h, e70_3]
      simp (disch := first | exact hm' _ | assumption | omega | exact Nat.le_of_ble_eq_true rfl) only [e70_0, e70_1, e70_5, e70_6, e70_9, e70_10, e70_11, e70_12, e70_15, e70_18, e70_20, e70_21, e70_22, e70_23, e70_24, e70_25, e70_28, e70_31, e70_34, e70_37, e70_40, e70_41, e70_42, e70_43, e70_46, e70_49, e70_50, e70_53, e70_55, J_add, J_sub, J_mul, J_neg, J_lt, J_le, J_eq, gArr_J, gAst_J, gSiz_J, gFld_o, gUpd_o0, gUpd_o1, gUpd_o2, gUpd_o3, gUpd_o4, gUpd_o5, gUpd_o6, gUpd_o7, gUpd_o8, gUpd_o9, gUpd_o10, gUpd_o11, gUpd_o12, gUpd_o13, gUpd_o14, gUpd_o15, gUpd_o16, gUpd_o17, gUpd_o18, gIsO_o, Option.bind_some, List.getElem?_cons_zero, List.getElem?_cons_succ, List.length_cons, List.length_nil, List.set_cons_zero, List.set_cons_succ, gCat_nil, gCat_int, gCat_ref, if_pos, if_neg, Option.toList_some, Option.toList_none, List.cons_append, List.nil_append, B_nar, J1_nar, J0_nar, if_true, if_false, rd_wr_same, rd_wr_ne, true_and, and_true, B_0, B_1, not_true_eq_false, not_false_eq_true, rdP0, rdP1, rdP2, rdP3, wP0, wP1, wP2, wP3, Nat.reduceAdd, r0, c0, c1, c2]
      have := ih (n + 1) (by omega)
      rw [lives, show ((n + 1 : Nat) : Int) = (n : Int) + 1 from rfl] at this
      exact this

theorem s70 {nat : gNat} {d : Nat} {w : gWd} {a m : Nat} {S K : Lay} (hm : isMe w m K) (hK : vK K) (ho : m + 3 < a ∨ a + 3 < m) (ha : a + 3 < gSTR) (hS : vS K S) {g : Int} (hg : 0 ≤ g ∧ g < K 0 1) {N : Nat} (hh : S 0 0 + N < 2000000000) : gC nat (d + 5) 70 [.ref a, .ref m, .int (J g), .int (J N)] (putS w a S) = some (some (.int (J (cfr K S g 0 N).1)), putS w a (lives K S (cfr K S g 0 N).2)) := by
  rw [en70, e70_0, e70_1]
  have := l70 (nat := nat) (d := d) hm hK ho ha hS hg hh N 0 (by omega)
  rw [lives] at this
  exact this
