def aoff (S : Lay) : Lay := fun b x => if b = 2 ∧ 0 ≤ x ∧ x < 4 then -4 else S b x
def nS (S : Lay) : Prop := (∀ i, 8 ≤ i → S 1 i = 0) ∧ (∀ i, 4 ≤ i → S 2 i = 0) ∧ (∀ i, 4 ≤ i → S 3 i = 0)

theorem s67 {nat : gNat} {d : Nat} {w : gWd} {a : Nat} {S : Lay} (ha : a + 3 < gSTR)  : gC nat (d + 2) 67 [.ref a] (putS w a S) = some (none, putS w a (aoff S)) := by
  rw [en67]
  have a1 : a + 1 < gSTR := by omega
  have a2 : a + 2 < gSTR := by omega
  simp (disch := first | exact rdP2 | assumption | omega) only [e67_0, e67_1, e67_2, e67_3, e67_4, e67_7, e67_8, e67_11, e67_12, e67_14, e67_17, e67_20, e67_23, J_add, J_sub, J_mul, J_neg, J_lt, J_le, J_eq, gArr_J, gAst_J, gSiz_J, gFld_o, gUpd_o0, gUpd_o1, gUpd_o2, gUpd_o3, gUpd_o4, gUpd_o5, gUpd_o6, gUpd_o7, gUpd_o8, gUpd_o9, gUpd_o10, gUpd_o11, gUpd_o12, gUpd_o13, gUpd_o14, gUpd_o15, gUpd_o16, gUpd_o17, gUpd_o18, gIsO_o, Option.bind_some, List.getElem?_cons_zero, List.getElem?_cons_succ, List.length_cons, List.length_nil, List.set_cons_zero, List.set_cons_succ, gCat_nil, gCat_int, gCat_ref, if_pos, if_neg, Option.toList_some, Option.toList_none, List.cons_append, List.nil_append, B_nar, J1_nar, J0_nar, if_true, if_false, rd_wr_same, rd_wr_ne, true_and, and_true, B_0, B_1, not_true_eq_false, not_false_eq_true, rdP0, rdP1, rdP2, rdP3, wP0, wP1, wP2, wP3, Nat.reduceAdd, s118 (n := 4)]
  congr 2
  refine putS_congr (by simp [aoff, sset]) (fun x _ => by simp [aoff, sset]) (fun x hx => ?_) (fun x _ => by simp [aoff, sset])
  simp only [aoff, sset, true_and]
  repeat' split
  all_goals first | rfl | omega

theorem s58 {nat : gNat} {d : Nat} {w : gWd} {a b : Nat} {S T : Lay} (ha : a + 3 < gSTR) (hb : isSt w b T) (ho : b + 3 < a ∨ a + 3 < b) (hS : nS S) (hT : nS T) : gC nat (d + 2) 58 [.ref a, .ref b] (putS w a S) = some (none, putS w a T) := by
  rw [en58]
  have a1 : a + 1 < gSTR := by omega
  have a2 : a + 2 < gSTR := by omega
  obtain ⟨b0, t0, t1, t2, t3⟩ := id hb
  have b1 : b + 1 < gSTR := by omega
  have b2 : b + 2 < gSTR := by omega
  have r0 : ∀ S, rd (putS w a S) b = oC 7 [.int (J (T 0 0)), .ref (b + 1), .ref (b + 2), .ref (b + 3)] := fun S => by rw [rd_putS (by omega)]; exact t0
  have r1 : ∀ S, rd (putS w a S) (b + 1) = iC 8 (eI (T 1)) := fun S => by rw [rd_putS (by omega)]; exact t1
  have r2 : ∀ S, rd (putS w a S) (b + 2) = iC 4 (eI (T 2)) := fun S => by rw [rd_putS (by omega)]; exact t2
  have r3 : ∀ S, rd (putS w a S) (b + 3) = iC 4 (eI (T 3)) := fun S => by rw [rd_putS (by omega)]; exact t3
  have c1 : ∀ (S : Lay) (i : Int), (0 ≤ i ∧ i < 8) → gC nat (d + 1) 117 [.ref (b + 1), .int (J i)] (putS w a S) = some (some (.int (J (T 1 i))), putS w a S) := fun S i h => s117 (r1 S) b1 (by omega) (by omega)
  have c2 : ∀ (S : Lay) (i : Int), (0 ≤ i ∧ i < 4) → gC nat (d + 1) 117 [.ref (b + 2), .int (J i)] (putS w a S) = some (some (.int (J (T 2 i))), putS w a S) := fun S i h => s117 (r2 S) b2 (by omega) (by omega)
  have c3 : ∀ (S : Lay) (i : Int), (0 ≤ i ∧ i < 4) → gC nat (d + 1) 117 [.ref (b + 3), .int (J i)] (putS w a S) = some (some (.int (J (T 3 i))), putS w a S) := fun S i h => s117 (r3 S) b0 (by omega) (by omega)
  have e1 : ∀ (S : Lay) (i v : Int), (0 ≤ i ∧ i < 8) → gC nat (d + 1) 118 [.ref (a + 1), .int (J i), .int (J v)] (putS w a S) = some (none, putS w a (sset S 1 i v)) := fun S i v h => by rw [s118 rdP1 a1 (by omega) (by omega), wP1 ha]
  have e2 : ∀ (S : Lay) (i v : Int), (0 ≤ i ∧ i < 4) → gC nat (d + 1) 118 [.ref (a + 2), .int (J i), .int (J v)] (putS w a S) = some (none, putS w a (sset S 2 i v)) := fun S i v h => by rw [s118 rdP2 a2 (by omega) (by omega), wP2 ha]
  have e3 : ∀ (S : Lay) (i v : Int), (0 ≤ i ∧ i < 4) → gC nat (d + 1) 118 [.ref (a + 3), .int (J i), .int (J v)] (putS w a S) = some (none, putS w a (sset S 3 i v)) := fun S i v h => by rw [s118 rdP3 ha (by omega) (by omega), wP3 ha]
  simp (disch := first | omega | exact Nat.le_of_ble_eq_true rfl) only [e58_0, e58_1, e58_2, e58_5, e58_8, e58_9, e58_10, e58_11, e58_13, e58_16, e58_17, e58_20, e58_21, e58_22, e58_25, e58_26, e58_29, e58_32, e58_35, e58_38, e58_39, e58_40, e58_41, e58_42, e58_45, e58_46, e58_49, e58_50, e58_51, e58_54, e58_55, e58_58, e58_61, e58_62, e58_65, e58_66, e58_67, e58_70, e58_71, e58_74, e58_77, e58_80, e58_83, J_add, J_sub, J_mul, J_neg, J_lt, J_le, J_eq, gArr_J, gAst_J, gSiz_J, gFld_o, gUpd_o0, gUpd_o1, gUpd_o2, gUpd_o3, gUpd_o4, gUpd_o5, gUpd_o6, gUpd_o7, gUpd_o8, gUpd_o9, gUpd_o10, gUpd_o11, gUpd_o12, gUpd_o13, gUpd_o14, gUpd_o15, gUpd_o16, gUpd_o17, gUpd_o18, gIsO_o, Option.bind_some, List.getElem?_cons_zero, List.getElem?_cons_succ, List.length_cons, List.length_nil, List.set_cons_zero, List.set_cons_succ, gCat_nil, gCat_int, gCat_ref, if_pos, if_neg, Option.toList_some, Option.toList_none, List.cons_append, List.nil_append, B_nar, J1_nar, J0_nar, if_true, if_false, rd_wr_same, rd_wr_ne, true_and, and_true, B_0, B_1, not_true_eq_false, not_false_eq_true, rdP0, r0, wP0, c1, c2, c3, e1, e2, e3, Nat.reduceAdd]
  congr 2
  refine putS_congr (by simp [sset]) (fun x hx => ?_) (fun x hx => ?_) (fun x hx => ?_)
  · have h8 : x = 0 ∨ x = 1 ∨ x = 2 ∨ x = 3 ∨ x = 4 ∨ x = 5 ∨ x = 6 ∨ x = 7 ∨ 8 ≤ x := by omega
    rcases h8 with rfl | rfl | rfl | rfl | rfl | rfl | rfl | rfl | h8
    all_goals first
      | (simp [sset]; done)
      | (have q1 := hT.1 x h8
         have q2 := hS.1 x h8
         simp only [sset, true_and]
         repeat' split
         all_goals omega)
  · have h8 : x = 0 ∨ x = 1 ∨ x = 2 ∨ x = 3 ∨ 4 ≤ x := by omega
    rcases h8 with rfl | rfl | rfl | rfl | h8
    all_goals first
      | (simp [sset]; done)
      | (have q1 := hT.2.1 x h8
         have q2 := hS.2.1 x h8
         simp only [sset, true_and]
         repeat' split
         all_goals omega)
  · have h8 : x = 0 ∨ x = 1 ∨ x = 2 ∨ x = 3 ∨ 4 ≤ x := by omega
    rcases h8 with rfl | rfl | rfl | rfl | h8
    all_goals first
      | (simp [sset]; done)
      | (have q1 := hT.2.2 x h8
         have q2 := hS.2.2 x h8
         simp only [sset, true_and]
         repeat' split
         all_goals omega)
