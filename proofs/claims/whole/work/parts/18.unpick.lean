def lost (K : Lay) (i : Int) : Int := if K 1 (5 * i) = 2 then 2 else 1
def unpI (K S : Lay) (j : Int) : Lay := fun a i => if a = 1 ∧ j ≤ i ∧ i < K 0 1 ∧ S 1 i < K 1 (5 * i + 4) then (if S 1 i - lost K i < 0 then 0 else S 1 i - lost K i) else S a i
theorem l74 {nat : gNat} {d : Nat} {w : gWd} {a m : Nat} {K : Lay} (hm : isMe w m K) (hK : vK K) (ho : m + 3 < a ∨ a + 3 < m) (ha : a + 3 < gSTR) {z : Option Value} : ∀ (k : Nat) (i : Int) (z : Option Value) (S : Lay), i + k = K 0 1 → 0 ≤ i → (∀ g, 0 ≤ g → g < K 0 1 → 0 ≤ S 1 g ∧ S 1 g ≤ 20) → gX (gC nat (d + 2)) nat 74 2 [some (.ref a), some (.ref m), some (.int (J i)), z] [] [] (putS w a S) = some (none, putS w a (unpI K S i)) := by
  have hm' : ∀ S, isMe (putS w a S) m K := fun S => isMe_putS ho hm
  obtain ⟨m0, m1, m2, m3, m4⟩ := id hm
  obtain ⟨k0, k1, k2, k3, k4, kg, kd, kr⟩ := id hK
  have a1 : a + 1 < gSTR := by omega
  have a2 : a + 2 < gSTR := by omega
  have r0 : ∀ S, rd (putS w a S) m = oC 2 [.int (J (K 0 0)), .int (J (K 0 1)), .int (J (K 0 2)), .int (J (K 0 3)), .int (J (K 0 4)), .ref (m + 1), .ref (m + 2), .ref (m + 3)] := fun S => (hm' S).2.1
  intro k
  induction k with
  | zero =>
    intro i z S h0 h1 hS
    simp (disch := first | exact hm' _ | assumption | omega | exact Nat.le_of_ble_eq_true rfl) only [e74_0, e74_1, e74_2, e74_3, e74_4, e74_7, e74_10, e74_11, e74_12, e74_13, e74_16, e74_19, e74_20, e74_21, e74_22, e74_25, e74_26, e74_29, e74_30, e74_33, e74_34, e74_35, e74_36, e74_39, e74_40, e74_41, e74_42, e74_45, e74_46, e74_49, e74_50, e74_51, e74_54, e74_57, e74_60, e74_63, J_add, J_sub, J_mul, J_neg, J_lt, J_le, J_eq, gArr_J, gAst_J, gSiz_J, gFld_o, gUpd_o0, gUpd_o1, gUpd_o2, gUpd_o3, gUpd_o4, gUpd_o5, gUpd_o6, gUpd_o7, gUpd_o8, gUpd_o9, gUpd_o10, gUpd_o11, gUpd_o12, gUpd_o13, gUpd_o14, gUpd_o15, gUpd_o16, gUpd_o17, gUpd_o18, gIsO_o, Option.bind_some, List.getElem?_cons_zero, List.getElem?_cons_succ, List.length_cons, List.length_nil, List.set_cons_zero, List.set_cons_succ, gCat_nil, gCat_int, gCat_ref, if_pos, if_neg, Option.toList_some, Option.toList_none, List.cons_append, List.nil_append, B_nar, J1_nar, J0_nar, if_true, if_false, rd_wr_same, rd_wr_ne, true_and, and_true, B_0, B_1, not_true_eq_false, not_false_eq_true, rdP0, rdP1, rdP2, rdP3, wP0, wP1, wP2, wP3, Nat.reduceAdd, r0]
    congr 2
    exact putS_congr (by simp [unpI]) (fun x _ => by unfold unpI; rw [if_neg (by omega)]) (fun _ _ => by simp [unpI]) (fun _ _ => by simp [unpI])
  | succ k ih =>
    intro i z S h0 h1 hS
    have hb := hS i h1 (by omega)
    have hg := kg i h1 (by omega)
    have c0 := s62 (nat := nat) (d := d) (w := w) (S := S) hm hK ho ha (g := i) (by omega) hb
    have c1 := s18 (nat := nat) (d := d + 1) (w := putS w a S) (m := m) (K := K) (g := i) (i := 0) (hm' S) (by omega) (by omega)
    rw [Int.add_zero] at c1
    have c2 := s117 (nat := nat) (d := d + 1) (w := putS w a S) (a := a + 1) (n := 8) (f := S 1) (i := i) rdP1 a1 (by omega) (by omega)
    have c3 : ∀ v, gC nat (d + 2) 118 [.ref (a + 1), .int (J i), .int (J v)] (putS w a S) = some (none, putS w a (sset S 1 i v)) := fun v => by rw [s118 rdP1 a1 (by omega) (by omega), wP1 ha]
    have fin : ∀ v, (v = if S 1 i < K 1 (5 * i + 4) then (if S 1 i - lost K i < 0 then 0 else S 1 i - lost K i) else S 1 i) → putS w a (unpI K (sset S 1 i v) (i + 1)) = putS w a (unpI K S i) := by
      intro v hv
      refine putS_congr (by simp [unpI, sset]) (fun x _ => ?_) (fun x _ => by simp [unpI, sset]) (fun x _ => by simp [unpI, sset])
      simp only [unpI, sset, true_and]
      by_cases q : x = i
      · subst q
        rw [hv]
        repeat' split
        all_goals first | rfl | omega
      · simp only [q, if_false]
        repeat' split
        all_goals first | rfl | omega
    have hS' : ∀ v, 0 ≤ v ∧ v ≤ 20 → ∀ g, 0 ≤ g → g < K 0 1 → 0 ≤ (sset S 1 i v) 1 g ∧ (sset S 1 i v) 1 g ≤ 20 := by
      intro v hv g q1 q2
      rw [sset_fset]
      by_cases q : g = i
      · subst q
        rw [fset_at]
        exact hv
      · rw [fset_ne q]
        exact hS g q1 q2
    rw [e74_2]
    by_cases h : K 1 (5 * i + 4) ≤ S 1 i
    · rw [B_pos h] at c0
      simp (disch := first | exact hm' _ | assumption | omega | exact Nat.le_of_ble_eq_true rfl) only [e74_0, e74_1, e74_3, e74_4, e74_7, e74_10, e74_11, e74_12, e74_13, e74_16, e74_19, e74_20, e74_21, e74_22, e74_25, e74_26, e74_29, e74_30, e74_33, e74_34, e74_35, e74_36, e74_39, e74_40, e74_41, e74_42, e74_45, e74_46, e74_49, e74_50, e74_51, e74_54, e74_57, e74_60, e74_63, J_add, J_sub, J_mul, J_neg, J_lt, J_le, J_eq, gArr_J, gAst_J, gSiz_J, gFld_o, gUpd_o0, gUpd_o1, gUpd_o2, gUpd_o3, gUpd_o4, gUpd_o5, gUpd_o6, gUpd_o7, gUpd_o8, gUpd_o9, gUpd_o10, gUpd_o11, gUpd_o12, gUpd_o13, gUpd_o14, gUpd_o15, gUpd_o16, gUpd_o17, gUpd_o18, gIsO_o, Option.bind_some, List.getElem?_cons_zero, List.getElem?_cons_succ, List.length_cons, List.length_nil, List.set_cons_zero, List.set_cons_succ, gCat_nil, gCat_int, gCat_ref, if_pos, if_neg, Option.toList_some, Option.toList_none, List.cons_append, List.nil_append, B_nar, J1_nar, J0_nar, if_true, if_false, rd_wr_same, rd_wr_ne, true_and, and_true, B_0, B_1, not_true_eq_false, not_false_eq_true, rdP0, rdP1, rdP2, rdP3, wP0, wP1, wP2, wP3, Nat.reduceAdd, r0, c0]
      rw [ih (i + 1) z S (by omega) (by omega) hS]
      congr 2
      rw [← fin (S 1 i) (by rw [if_neg (by omega)])]
      refine putS_congr (by simp [unpI, sset]) (fun x _ => ?_) (fun x _ => by simp [unpI, sset]) (fun x _ => by simp [unpI, sset])
      simp only [unpI, sset, true_and]
      by_cases q : x = i
      · subst q
        simp
      · simp only [q, if_false]
    · rw [B_neg h] at c0
      by_cases h2 : K 1 (5 * i) = 2
      · by_cases h3 : 0 < S 1 i - 2
        · simp (disch := first | exact hm' _ | assumption | omega | exact Nat.le_of_ble_eq_true rfl) only [e74_0, e74_1, e74_3, e74_4, e74_7, e74_10, e74_11, e74_12, e74_13, e74_16, e74_19, e74_20, e74_21, e74_22, e74_25, e74_26, e74_29, e74_30, e74_33, e74_34, e74_35, e74_36, e74_39, e74_40, e74_41, e74_42, e74_45, e74_46, e74_49, e74_50, e74_51, e74_54, e74_57, e74_60, e74_63, J_add, J_sub, J_mul, J_neg, J_lt, J_le, J_eq, gArr_J, gAst_J, gSiz_J, gFld_o, gUpd_o0, gUpd_o1, gUpd_o2, gUpd_o3, gUpd_o4, gUpd_o5, gUpd_o6, gUpd_o7, gUpd_o8, gUpd_o9, gUpd_o10, gUpd_o11, gUpd_o12, gUpd_o13, gUpd_o14, gUpd_o15, gUpd_o16, gUpd_o17, gUpd_o18, gIsO_o, Option.bind_some, List.getElem?_cons_zero, List.getElem?_cons_succ, List.length_cons, List.length_nil, List.set_cons_zero, List.set_cons_succ, gCat_nil, gCat_int, gCat_ref, if_pos, if_neg, Option.toList_some, Option.toList_none, List.cons_append, List.nil_append, B_nar, J1_nar, J0_nar, if_true, if_false, rd_wr_same, rd_wr_ne, true_and, and_true, B_0, B_1, not_true_eq_false, not_false_eq_true, rdP0, rdP1, rdP2, rdP3, wP0, wP1, wP2, wP3, Nat.reduceAdd, r0, c0, c1, c2, c3, h2, h3]
          rw [ih (i + 1) _ (sset S 1 i (S 1 i - 2)) (by omega) (by omega) (hS' _ (by omega)), fin _ (by unfold lost; rw [if_pos (by omega), if_pos h2, if_neg (by omega)])]
        · simp (disch := first | exact hm' _ | assumption | omega | exact Nat.le_of_ble_eq_true rfl) only [e74_0, e74_1, e74_3, e74_4, e74_7, e74_10, e74_11, e74_12, e74_13, e74_16, e74_19, e74_20, e74_21, e74_22, e74_25, e74_26, e74_29, e74_30, e74_33, e74_34, e74_35, e74_36, e74_39, e74_40, e74_41, e74_42, e74_45, e74_46, e74_49, e74_50, e74_51, e74_54, e74_57, e74_60, e74_63, J_add, J_sub, J_mul, J_neg, J_lt, J_le, J_eq, gArr_J, gAst_J, gSiz_J, gFld_o, gUpd_o0, gUpd_o1, gUpd_o2, gUpd_o3, gUpd_o4, gUpd_o5, gUpd_o6, gUpd_o7, gUpd_o8, gUpd_o9, gUpd_o10, gUpd_o11, gUpd_o12, gUpd_o13, gUpd_o14, gUpd_o15, gUpd_o16, gUpd_o17, gUpd_o18, gIsO_o, Option.bind_some, List.getElem?_cons_zero, List.getElem?_cons_succ, List.length_cons, List.length_nil, List.set_cons_zero, List.set_cons_succ, gCat_nil, gCat_int, gCat_ref, if_pos, if_neg, Option.toList_some, Option.toList_none, List.cons_append, List.nil_append, B_nar, J1_nar, J0_nar, if_true, if_false, rd_wr_same, rd_wr_ne, true_and, and_true, B_0, B_1, not_true_eq_false, not_false_eq_true, rdP0, rdP1, rdP2, rdP3, wP0, wP1, wP2, wP3, Nat.reduceAdd, r0, c0, c1, c2, c3, h2, h3]
          rw [ih (i + 1) _ (sset S 1 i 0) (by omega) (by omega) (hS' _ (by omega)), fin _ (by unfold lost; rw [if_pos (by omega), if_pos h2]; repeat' split; all_goals omega)]
      · by_cases h3 : 0 < S 1 i - 1
        · simp (disch := first | exact hm' _ | assumption | omega | exact Nat.le_of_ble_eq_true rfl) only [e74_0, e74_1, e74_3, e74_4, e74_7, e74_10, e74_11, e74_12, e74_13, e74_16, e74_19, e74_20, e74_21, e74_22, e74_25, e74_26, e74_29, e74_30, e74_33, e74_34, e74_35, e74_36, e74_39, e74_40, e74_41, e74_42, e74_45, e74_46, e74_49, e74_50, e74_51, e74_54, e74_57, e74_60, e74_63, J_add, J_sub, J_mul, J_neg, J_lt, J_le, J_eq, gArr_J, gAst_J, gSiz_J, gFld_o, gUpd_o0, gUpd_o1, gUpd_o2, gUpd_o3, gUpd_o4, gUpd_o5, gUpd_o6, gUpd_o7, gUpd_o8, gUpd_o9, gUpd_o10, gUpd_o11, gUpd_o12, gUpd_o13, gUpd_o14, gUpd_o15, gUpd_o16, gUpd_o17, gUpd_o18, gIsO_o, Option.bind_some, List.getElem?_cons_zero, List.getElem?_cons_succ, List.length_cons, List.length_nil, List.set_cons_zero, List.set_cons_succ, gCat_nil, gCat_int, gCat_ref, if_pos, if_neg, Option.toList_some, Option.toList_none, List.cons_append, List.nil_append, B_nar, J1_nar, J0_nar, if_true, if_false, rd_wr_same, rd_wr_ne, true_and, and_true, B_0, B_1, not_true_eq_false, not_false_eq_true, rdP0, rdP1, rdP2, rdP3, wP0, wP1, wP2, wP3, Nat.reduceAdd, r0, c0, c1, c2, c3, h2, h3]
          rw [ih (i + 1) _ (sset S 1 i (S 1 i - 1)) (by omega) (by omega) (hS' _ (by omega)), fin _ (by unfold lost; rw [if_pos (by omega), if_neg h2, if_neg (by omega)])]
        · simp (disch := first | exact hm' _ | assumption | omega | exact Nat.le_of_ble_eq_true rfl) only [e74_0, e74_1, e74_3, e74_4, e74_7, e74_10, e74_11, e74_12, e74_13, e74_16, e74_19, e74_20, e74_21, e74_22, e74_25, e74_26, e74_29, e74_30, e74_33, e74_34, e74_35, e74_36, e74_39, e74_40, e74_41, e74_42, e74_45, e74_46, e74_49, e74_50, e74_51, e74_54, e74_57, e74_60, e74_63, J_add, J_sub, J_mul, J_neg, J_lt, J_le, J_eq, gArr_J, gAst_J, gSiz_J, gFld_o, gUpd_o0, gUpd_o1, gUpd_o2, gUpd_o3, gUpd_o4, gUpd_o5, gUpd_o6, gUpd_o7, gUpd_o8, gUpd_o9, gUpd_o10, gUpd_o11, gUpd_o12, gUpd_o13, gUpd_o14, gUpd_o15, gUpd_o16, gUpd_o17, gUpd_o18, gIsO_o, Option.bind_some, List.getElem?_cons_zero, List.getElem?_cons_succ, List.length_cons, List.length_nil, List.set_cons_zero, List.set_cons_succ, gCat_nil, gCat_int, gCat_ref, if_pos, if_neg, Option.toList_some, Option.toList_none, List.cons_append, List.nil_append, B_nar, J1_nar, J0_nar, if_true, if_false, rd_wr_same, rd_wr_ne, true_and, and_true, B_0, B_1, not_true_eq_false, not_false_eq_true, rdP0, rdP1, rdP2, rdP3, wP0, wP1, wP2, wP3, Nat.reduceAdd, r0, c0, c1, c2, c3, h2, h3]
          rw [ih (i + 1) _ (sset S 1 i 0) (by omega) (by omega) (hS' _ (by omega)), fin _ (by unfold lost; rw [if_pos (by omega), if_neg h2]; repeat' split; all_goals omega)]

theorem s74 {nat : gNat} {d : Nat} {w : gWd} {a m : Nat} {S K : Lay} (hm : isMe w m K) (hK : vK K) (ho : m + 3 < a ∨ a + 3 < m) (ha : a + 3 < gSTR) (hS : ∀ g, 0 ≤ g → g < K 0 1 → 0 ≤ S 1 g ∧ S 1 g ≤ 20) : gC nat (d + 3) 74 [.ref a, .ref m] (putS w a S) = some (none, putS w a (unp K S)) := by
  rw [en74, e74_0, e74_1, l74 hm hK ho ha (z := none) (K 0 1).toNat 0 none S (by have := hK.2.1; omega) (by omega) hS]
  rfl
