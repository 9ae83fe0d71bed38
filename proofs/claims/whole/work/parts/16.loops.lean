def coffI (S : Lay) (g i : Int) : Lay := fun b x => if b = 2 ∧ i ≤ x ∧ x < 4 ∧ S 2 x = g then -4 else S b x
theorem coffI_0 (S : Lay) (g : Int) : coffI S g 0 = coff S g := rfl
theorem l73 {nat : gNat} {d : Nat} {w : gWd} {a : Nat} (ha : a + 3 < gSTR) {g : Int} (hg : 0 ≤ g ∧ g < 8) : ∀ (k : Nat) (i : Int) (S : Lay), i + k = 4 → 0 ≤ i → (∀ x, 0 ≤ x → x < 4 → -4 ≤ S 2 x ∧ S 2 x ≤ 8) → gX (gC nat (d + 1)) nat 73 2 [some (.ref a), some (.int (J g)), some (.int (J i))] [] [] (putS w a S) = some (none, putS w a (coffI S g i)) := by
  have a1 : a + 1 < gSTR := by omega
  have a2 : a + 2 < gSTR := by omega
  intro k
  induction k with
  | zero =>
    intro i S h0 h1 hS
    simp (disch := first | omega | exact Nat.le_of_ble_eq_true rfl) only [e73_0, e73_1, e73_2, e73_3, e73_4, e73_7, e73_8, e73_11, e73_12, e73_15, e73_16, e73_19, e73_20, e73_23, e73_24, e73_26, e73_29, e73_32, e73_35, J_add, J_sub, J_mul, J_neg, J_lt, J_le, J_eq, gArr_J, gAst_J, gSiz_J, gFld_o, gUpd_o0, gUpd_o1, gUpd_o2, gUpd_o3, gUpd_o4, gUpd_o5, gUpd_o6, gUpd_o7, gUpd_o8, gUpd_o9, gUpd_o10, gUpd_o11, gUpd_o12, gUpd_o13, gUpd_o14, gUpd_o15, gUpd_o16, gUpd_o17, gUpd_o18, gIsO_o, Option.bind_some, List.getElem?_cons_zero, List.getElem?_cons_succ, List.length_cons, List.length_nil, List.set_cons_zero, List.set_cons_succ, gCat_nil, gCat_int, gCat_ref, if_pos, if_neg, Option.toList_some, Option.toList_none, List.cons_append, List.nil_append, B_nar, J1_nar, J0_nar, if_true, if_false, rd_wr_same, rd_wr_ne, true_and, and_true, B_0, B_1, not_true_eq_false, not_false_eq_true, rdP0, rdP1, rdP2, rdP3, wP0, wP1, wP2, wP3, Nat.reduceAdd]
    congr 2
    exact putS_congr (by simp [coffI]) (fun _ _ => by simp [coffI]) (fun x _ => by unfold coffI; rw [if_neg (by omega)]) (fun _ _ => by simp [coffI])
  | succ k ih =>
    intro i S h0 h1 hS
    have hb := hS i h1 (by omega)
    have c1 := s117 (nat := nat) (d := d) (w := putS w a S) (a := a + 2) (n := 4) (f := S 2) (i := i) rdP2 a2 (by omega) (by omega)
    have c2 := s118 (nat := nat) (d := d) (w := putS w a S) (a := a + 2) (n := 4) (f := S 2) (i := i) (v := -4) rdP2 a2 (by omega) (by omega)
    rw [e73_2]
    by_cases h : S 2 i = g
    · subst h
      simp (disch := first | omega | exact Nat.le_of_ble_eq_true rfl) only [e73_0, e73_1, e73_3, e73_4, e73_7, e73_8, e73_11, e73_12, e73_15, e73_16, e73_19, e73_20, e73_23, e73_24, e73_26, e73_29, e73_32, e73_35, J_add, J_sub, J_mul, J_neg, J_lt, J_le, J_eq, gArr_J, gAst_J, gSiz_J, gFld_o, gUpd_o0, gUpd_o1, gUpd_o2, gUpd_o3, gUpd_o4, gUpd_o5, gUpd_o6, gUpd_o7, gUpd_o8, gUpd_o9, gUpd_o10, gUpd_o11, gUpd_o12, gUpd_o13, gUpd_o14, gUpd_o15, gUpd_o16, gUpd_o17, gUpd_o18, gIsO_o, Option.bind_some, List.getElem?_cons_zero, List.getElem?_cons_succ, List.length_cons, List.length_nil, List.set_cons_zero, List.set_cons_succ, gCat_nil, gCat_int, gCat_ref, if_pos, if_neg, Option.toList_some, Option.toList_none, List.cons_append, List.nil_append, B_nar, J1_nar, J0_nar, if_true, if_false, rd_wr_same, rd_wr_ne, true_and, and_true, B_0, B_1, not_true_eq_false, not_false_eq_true, rdP0, rdP1, rdP2, rdP3, wP0, wP1, wP2, wP3, Nat.reduceAdd, c1, c2]
      rw [ih (i + 1) (sset S 2 i (-4)) (by omega) (by omega) (fun x q1 q2 => by
        rw [sset_fset]
        by_cases q : x = i
        · subst q
          rw [fset_at]
          omega
        · rw [fset_ne q]
          exact hS x q1 q2)]
      congr 2
      refine putS_congr (by simp [coffI, sset]) (fun x _ => by simp [coffI, sset]) (fun x _ => ?_) (fun x _ => by simp [coffI, sset])
      simp only [coffI, sset, true_and]
      by_cases q : x = i
      · subst q
        simp; omega
      · simp only [q, and_false, if_false]
        repeat' split
        all_goals first | rfl | omega
    · have hne : ¬ (J (S 2 i) = J g) := by rw [J_eq (by omega) (by omega)]; exact h
      simp (disch := first | omega | exact Nat.le_of_ble_eq_true rfl) only [e73_0, e73_1, e73_3, e73_4, e73_7, e73_8, e73_11, e73_12, e73_15, e73_16, e73_19, e73_20, e73_23, e73_24, e73_26, e73_29, e73_32, e73_35, J_add, J_sub, J_mul, J_neg, J_lt, J_le, J_eq, gArr_J, gAst_J, gSiz_J, gFld_o, gUpd_o0, gUpd_o1, gUpd_o2, gUpd_o3, gUpd_o4, gUpd_o5, gUpd_o6, gUpd_o7, gUpd_o8, gUpd_o9, gUpd_o10, gUpd_o11, gUpd_o12, gUpd_o13, gUpd_o14, gUpd_o15, gUpd_o16, gUpd_o17, gUpd_o18, gIsO_o, Option.bind_some, List.getElem?_cons_zero, List.getElem?_cons_succ, List.length_cons, List.length_nil, List.set_cons_zero, List.set_cons_succ, gCat_nil, gCat_int, gCat_ref, if_pos, if_neg, Option.toList_some, Option.toList_none, List.cons_append, List.nil_append, B_nar, J1_nar, J0_nar, if_true, if_false, rd_wr_same, rd_wr_ne, true_and, and_true, B_0, B_1, not_true_eq_false, not_false_eq_true, rdP0, rdP1, rdP2, rdP3, wP0, wP1, wP2, wP3, Nat.reduceAdd, c1, c2, h]
      rw [ih (i + 1) S (by omega) (by omega) hS]
      congr 2
      refine putS_congr (by simp [coffI]) (fun x _ => by simp [coffI]) (fun x _ => ?_) (fun x _ => by simp [coffI])
      simp only [coffI, true_and]
      by_cases q : x = i
      · subst q
        rw [if_neg (by omega), if_neg (fun q => h q.2.2)]
      · repeat' split
        all_goals first | rfl | omega

theorem s73 {nat : gNat} {d : Nat} {w : gWd} {a : Nat} {S : Lay} (ha : a + 3 < gSTR) {g : Int} (hg : 0 ≤ g ∧ g < 8) (hS : ∀ x, 0 ≤ x → x < 4 → -4 ≤ S 2 x ∧ S 2 x ≤ 8) : gC nat (d + 2) 73 [.ref a, .int (J g)] (putS w a S) = some (none, putS w a (coff S g)) := by
  rw [en73, e73_0, e73_1, l73 ha hg 4 0 S (by omega) (by omega) hS, coffI_0]
