theorem s57 {nat : gNat} {d : Nat} {w : gWd} {a m : Nat} {S K : Lay} (hm : isMe w m K) (ho : m + 3 < a ∨ a + 3 < m) (ha : a + 3 < gSTR) (hS : nS S) : gC nat (d + 2) 57 [.ref a, .ref m] (putS w a S) = some (none, putS w a (fun b x => if b = 2 ∧ 0 ≤ x ∧ x < 4 then -4 else if b = 3 ∧ 0 ≤ x ∧ x < 4 then K 2 (3 * x + 1) else 0)) := by
  rw [en57]
  have hm' : ∀ S, isMe (putS w a S) m K := fun S => isMe_putS ho hm
  obtain ⟨m0, m1, m2, m3, m4⟩ := id hm
  have a1 : a + 1 < gSTR := by omega
  have a2 : a + 2 < gSTR := by omega
  have r0 : ∀ S, rd (putS w a S) m = oC 2 [.int (J (K 0 0)), .int (J (K 0 1)), .int (J (K 0 2)), .int (J (K 0 3)), .int (J (K 0 4)), .ref (m + 1), .ref (m + 2), .ref (m + 3)] := fun S => (hm' S).2.1
  have c1 : ∀ (S : Lay) (i : Int), (0 ≤ i ∧ i < 4) → gC nat (d + 1) 19 [.ref m, .int (J i), .int (J 1)] (putS w a S) = some (some (.int (J (K 2 (3 * i + 1)))), putS w a S) := fun S i h => s19 (hm' S) (by omega) (by omega)
  have e1 : ∀ (S : Lay) (i v : Int), (0 ≤ i ∧ i < 8) → gC nat (d + 1) 118 [.ref (a + 1), .int (J i), .int (J v)] (putS w a S) = some (none, putS w a (sset S 1 i v)) := fun S i v h => by rw [s118 rdP1 a1 (by omega) (by omega), wP1 ha]
  have e2 : ∀ (S : Lay) (i v : Int), (0 ≤ i ∧ i < 4) → gC nat (d + 1) 118 [.ref (a + 2), .int (J i), .int (J v)] (putS w a S) = some (none, putS w a (sset S 2 i v)) := fun S i v h => by rw [s118 rdP2 a2 (by omega) (by omega), wP2 ha]
  have e3 : ∀ (S : Lay) (i v : Int), (0 ≤ i ∧ i < 4) → gC nat (d + 1) 118 [.ref (a + 3), .int (J i), .int (J v)] (putS w a S) = some (none, putS w a (sset S 3 i v)) := fun S i v h => by rw [s118 rdP3 ha (by omega) (by omega), wP3 ha]
  simp (disch := first | omega | exact Nat.le_of_ble_eq_true rfl) only [e57_0, e57_1, e57_2, e57_5, e57_6, e57_7, e57_8, e57_10, e57_13, e57_14, e57_17, e57_18, e57_19, e57_22, e57_25, e57_28, e57_29, e57_30, e57_31, e57_32, e57_35, e57_36, e57_39, e57_40, e57_42, e57_45, e57_46, e57_49, e57_50, e57_51, e57_52, e57_53, e57_56, e57_59, e57_62, e57_65, J_add, J_sub, J_mul, J_neg, J_lt, J_le, J_eq, gArr_J, gAst_J, gSiz_J, gFld_o, gUpd_o0, gUpd_o1, gUpd_o2, gUpd_o3, gUpd_o4, gUpd_o5, gUpd_o6, gUpd_o7, gUpd_o8, gUpd_o9, gUpd_o10, gUpd_o11, gUpd_o12, gUpd_o13, gUpd_o14, gUpd_o15, gUpd_o16, gUpd_o17, gUpd_o18, gIsO_o, Option.bind_some, List.getElem?_cons_zero, List.getElem?_cons_succ, List.length_cons, List.length_nil, List.set_cons_zero, List.set_cons_succ, gCat_nil, gCat_int, gCat_ref, if_pos, if_neg, Option.toList_some, Option.toList_none, List.cons_append, List.nil_append, B_nar, J1_nar, J0_nar, if_true, if_false, rd_wr_same, rd_wr_ne, true_and, and_true, B_0, B_1, not_true_eq_false, not_false_eq_true, rdP0, r0, wP0 ha, c1, e1, e2, e3, Nat.reduceAdd]
  congr 2
  have nx1 : (1 : Int) ≠ 2 := by decide
  have nx2 : (1 : Int) ≠ 3 := by decide
  have nx3 : (2 : Int) ≠ 3 := by decide
  have nx4 : (2 : Int) ≠ 1 := by decide
  have nx5 : (3 : Int) ≠ 1 := by decide
  have nx6 : (3 : Int) ≠ 2 := by decide
  have nx7 : (1 : Int) ≠ 0 := by decide
  have nx8 : (2 : Int) ≠ 0 := by decide
  have nx9 : (3 : Int) ≠ 0 := by decide
  refine putS_congr (by simp [sset]) (fun x hx => ?_) (fun x hx => ?_) (fun x hx => ?_)
  · rw [if_neg (by omega), if_neg (by omega)]
    simp only [sset_row nx1, sset_row nx2, sset_row nx7, sset_fset]
    by_cases h8 : 8 ≤ x
    · simp (disch := omega) only [fset_ne, hS.1 x h8]
    · have h8 : x = 0 ∨ x = 1 ∨ x = 2 ∨ x = 3 ∨ x = 4 ∨ x = 5 ∨ x = 6 ∨ x = 7 := by omega
      rcases h8 with rfl | rfl | rfl | rfl | rfl | rfl | rfl | rfl
      all_goals first | rfl | (simp (disch := omega) only [fset_ne, fset_at]; done) | (show False; skip)
  · simp only [sset_row nx3, sset_row nx4, sset_row nx8, sset_fset, true_and]
    by_cases h8 : 4 ≤ x
    · rw [if_neg (show ¬ (0 ≤ x ∧ x < 4) by omega), if_neg (show ¬ ((2 : Int) = 3 ∧ 0 ≤ x ∧ x < 4) by omega)]
      simp (disch := omega) only [fset_ne, hS.2.1 x h8]
    · rw [if_pos (show 0 ≤ x ∧ x < 4 by omega)]
      have h8 : x = 0 ∨ x = 1 ∨ x = 2 ∨ x = 3 := by omega
      rcases h8 with rfl | rfl | rfl | rfl
      all_goals first | rfl | (simp (disch := omega) only [fset_ne, fset_at]; done)
  · simp only [sset_row nx5, sset_row nx6, sset_row nx9, sset_fset, true_and]
    by_cases h8 : 4 ≤ x
    · rw [if_neg (show ¬ ((3 : Int) = 2 ∧ 0 ≤ x ∧ x < 4) by omega), if_neg (show ¬ (0 ≤ x ∧ x < 4) by omega)]
      simp (disch := omega) only [fset_ne, hS.2.2 x h8]
    · rw [if_neg (show ¬ ((3 : Int) = 2 ∧ 0 ≤ x ∧ x < 4) by omega), if_pos (show 0 ≤ x ∧ x < 4 by omega)]
      have h8 : x = 0 ∨ x = 1 ∨ x = 2 ∨ x = 3 := by omega
      rcases h8 with rfl | rfl | rfl | rfl
      all_goals first | rfl | (simp (disch := omega) only [fset_ne, fset_at, Int.reduceMul, Int.reduceAdd]; done)
