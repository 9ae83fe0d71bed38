def prs (K : Lay) (s : Nat) (g : Int) : Int := if labK K s (K 1 (5 * g + 1)) = labK K s (K 1 (5 * g + 2)) then 0 else szw (labK K s) (K 1 (5 * g + 1)) 8 * szw (labK K s) (K 1 (5 * g + 2)) 8
theorem prs_in (K : Lay) (s : Nat) (g : Int) : 0 ≤ prs K s g ∧ prs K s g ≤ 64 := by
  unfold prs
  split
  · omega
  · obtain ⟨a1, a2⟩ := szw_in (labK K s) (K 1 (5 * g + 1)) 8
    obtain ⟨b1, b2⟩ := szw_in (labK K s) (K 1 (5 * g + 2)) 8
    generalize szw (labK K s) (K 1 (5 * g + 1)) 8 = a at *
    generalize szw (labK K s) (K 1 (5 * g + 2)) 8 = b at *
    refine ⟨Int.mul_nonneg a1 b1, ?_⟩
    exact Int.le_trans (Int.mul_le_mul_of_nonneg_right (c := b) a2 b1) (by omega)
def jnS (K S : Lay) : Nat → Int × Int := fun n => rng (fun g b => if K 1 (5 * (g : Int) + 4) ≤ S 1 g then b else if b.2 < prs K (cb K S) g then ((g : Int), prs K (cb K S) g) else b) n (-4, -4)
theorem jnS_in (K S : Lay) (n : Nat) : (-4 ≤ (jnS K S n).1 ∧ (jnS K S n).1 ≤ n) ∧ (-4 ≤ (jnS K S n).2 ∧ (jnS K S n).2 ≤ 64) := by
  induction n with
  | zero => exact ⟨⟨Int.le_refl (-4), by show (-4 : Int) ≤ 0; decide⟩, Int.le_refl (-4), by show (-4 : Int) ≤ 64; decide⟩
  | succ n ih =>
    have := prs_in K (cb K S) n
    unfold jnS at ih ⊢
    rw [rng]
    split
    · omega
    · split
      · dsimp only
        omega
      · omega
def aJoi (K S : Lay) (u : Int) : Int := if 0 ≤ u ∧ u ≤ 1 then (if u = 0 then (jnS K S (K 0 1).toNat).1 else (jnS K S (K 0 1).toNat).2) else -1
theorem l94 {nat : gNat} {d : Nat} {w : gWd} {p q : Nat} {X K S : Lay} {PT KT : Nat → Lay} (hX : isX w p q X K S PT KT) (hK : vK K) (hS : vS K S) {u : Int} (hu : 0 ≤ u ∧ u ≤ 1) : ∀ (k n : Nat) (z : Option Value), n + k = (K 0 1).toNat → gX (gC nat (d + 4)) nat 94 42 [some (.ref 0), some (.int (J u)), some (.int (J (jnS K S n).1)), some (.int (J (jnS K S n).2)), some (.int (J n)), z] [] [] (putH w 69 (labK K (cb K S))) = some (some (.int (J (if u = 0 then (jnS K S (K 0 1).toNat).1 else (jnS K S (K 0 1).toNat).2))), putH w 69 (labK K (cb K S))) := by
  have hx := isX_hp hX (f := labK K (cb K S)) (lab_far K (cb K S) (K 0 1).toNat)
  obtain ⟨i0, iT, iR, iK, iQ, iS, inS, iTr, iP, iKp, iE, iH, iW, iD, hpq⟩ := id hX
  obtain ⟨j0, jT, jR, jK, jQ, jS, jnS', jTr, jP, jKp, jE, jH, jW, jD, -⟩ := id hx
  have hb := gSTR_big
  have k1 := hK.2.1
  have k0 := hK.1
  intro k
  induction k with
  | zero =>
    intro n z hn
    rw [Nat.add_zero] at hn
    subst hn
    have hi := jnS_in K S (K 0 1).toNat
    rw [e94_42]
    by_cases h : u = 0
    · rw [if_pos h]
      simp (disch := first | omega | exact Nat.le_of_ble_eq_true rfl) only [e94_0, e94_1, e94_2, e94_3, e94_6, e94_9, e94_10, e94_11, e94_12, e94_15, e94_16, e94_19, e94_20, e94_23, e94_24, e94_27, e94_30, e94_33, e94_35, e94_36, e94_38, e94_39, e94_40, e94_44, e94_45, e94_48, e94_51, e94_54, e94_55, e94_58, e94_59, e94_62, e94_64, e94_67, e94_70, e94_71, e94_74, e94_75, e94_78, e94_80, e94_81, e94_84, e94_85, e94_88, e94_90, e94_91, e94_94, e94_97, e94_99, e94_101, e94_102, e94_105, e94_107, e94_108, e94_110, e94_111, e94_114, e94_117, e94_118, e94_121, e94_122, e94_125, e94_126, J_add, J_sub, J_mul, J_neg, J_lt, J_le, J_eq, gArr_J, gAst_J, gSiz_J, gFld_o, gUpd_o0, gUpd_o1, gUpd_o2, gUpd_o3, gUpd_o4, gUpd_o5, gUpd_o6, gUpd_o7, gUpd_o8, gUpd_o9, gUpd_o10, gUpd_o11, gUpd_o12, gUpd_o13, gUpd_o14, gUpd_o15, gUpd_o16, gUpd_o17, gUpd_o18, gIsO_o, Option.bind_some, List.getElem?_cons_zero, List.getElem?_cons_succ, List.length_cons, List.length_nil, List.set_cons_zero, List.set_cons_succ, gCat_nil, gCat_int, gCat_ref, if_pos, if_neg, Option.toList_some, Option.toList_none, List.cons_append, List.nil_append, B_nar, J1_nar, J0_nar, if_true, if_false, rd_wr_same, rd_wr_ne, true_and, and_true, B_0, B_1, not_true_eq_false, not_false_eq_true, j0, jK.2.1]
    · rw [if_neg h]
      simp (disch := first | omega | exact Nat.le_of_ble_eq_true rfl) only [e94_0, e94_1, e94_2, e94_3, e94_6, e94_9, e94_10, e94_11, e94_12, e94_15, e94_16, e94_19, e94_20, e94_23, e94_24, e94_27, e94_30, e94_33, e94_35, e94_36, e94_38, e94_39, e94_40, e94_44, e94_45, e94_48, e94_51, e94_54, e94_55, e94_58, e94_59, e94_62, e94_64, e94_67, e94_70, e94_71, e94_74, e94_75, e94_78, e94_80, e94_81, e94_84, e94_85, e94_88, e94_90, e94_91, e94_94, e94_97, e94_99, e94_101, e94_102, e94_105, e94_107, e94_108, e94_110, e94_111, e94_114, e94_117, e94_118, e94_121, e94_122, e94_125, e94_126, J_add, J_sub, J_mul, J_neg, J_lt, J_le, J_eq, gArr_J, gAst_J, gSiz_J, gFld_o, gUpd_o0, gUpd_o1, gUpd_o2, gUpd_o3, gUpd_o4, gUpd_o5, gUpd_o6, gUpd_o7, gUpd_o8, gUpd_o9, gUpd_o10, gUpd_o11, gUpd_o12, gUpd_o13, gUpd_o14, gUpd_o15, gUpd_o16, gUpd_o17, gUpd_o18, gIsO_o, Option.bind_some, List.getElem?_cons_zero, List.getElem?_cons_succ, List.length_cons, List.length_nil, List.set_cons_zero, List.set_cons_succ, gCat_nil, gCat_int, gCat_ref, if_pos, if_neg, Option.toList_some, Option.toList_none, List.cons_append, List.nil_append, B_nar, J1_nar, J0_nar, if_true, if_false, rd_wr_same, rd_wr_ne, true_and, and_true, B_0, B_1, not_true_eq_false, not_false_eq_true, j0, jK.2.1]
  | succ k ih =>
    intro n z hn
    have hi := jnS_in K S n
    have this := fun z => ih (n + 1) z (by omega)
    rw [show ((n + 1 : Nat) : Int) = (n : Int) + 1 from rfl] at this
    have c1 := s62x (nat := nat) (d := d + 2) hx hK hS (g := n) (by omega)
    have hp := prs_in K (cb K S) n
    have kg := hK.2.2.2.2.2.1 n (by omega) (by omega)
    have c2 := s18 (nat := nat) (d := d + 3) (w := putH w 69 (labK K (cb K S))) (m := p) (K := K) (g := n) (i := 1) jK (by omega) (by omega)
    have c3 := s18 (nat := nat) (d := d + 3) (w := putH w 69 (labK K (cb K S))) (m := p) (K := K) (g := n) (i := 2) jK (by omega) (by omega)
    have c4 := s10 (nat := nat) (d := d) (w := w) (h := 69) (f := labK K (cb K S)) iH.1 (x := K 1 (5 * (n : Int) + 1)) (y := K 1 (5 * (n : Int) + 2)) (by omega) (by omega) (lab_inK hK _)
    rw [show (if labK K (cb K S) (K 1 (5 * (n : Int) + 1)) = labK K (cb K S) (K 1 (5 * (n : Int) + 2)) then 0 else szw (labK K (cb K S)) (K 1 (5 * (n : Int) + 1)) 8 * szw (labK K (cb K S)) (K 1 (5 * (n : Int) + 2)) 8) = prs K (cb K S) n from rfl] at c4
    have e1 : jnS K S (n + 1) = if K 1 (5 * (n : Int) + 4) ≤ S 1 n then jnS K S n else if (jnS K S n).2 < prs K (cb K S) n then ((n : Int), prs K (cb K S) n) else jnS K S n := rfl
    rw [e94_42]
    by_cases h : K 1 (5 * (n : Int) + 4) ≤ S 1 n
    · rw [B_pos h] at c1
      rw [if_pos h] at e1
      rw [e1] at this
      simp (disch := first | omega | exact Nat.le_of_ble_eq_true rfl) only [e94_0, e94_1, e94_2, e94_3, e94_6, e94_9, e94_10, e94_11, e94_12, e94_15, e94_16, e94_19, e94_20, e94_23, e94_24, e94_27, e94_30, e94_33, e94_35, e94_36, e94_38, e94_39, e94_40, e94_44, e94_45, e94_48, e94_51, e94_54, e94_55, e94_58, e94_59, e94_62, e94_64, e94_67, e94_70, e94_71, e94_74, e94_75, e94_78, e94_80, e94_81, e94_84, e94_85, e94_88, e94_90, e94_91, e94_94, e94_97, e94_99, e94_101, e94_102, e94_105, e94_107, e94_108, e94_110, e94_111, e94_114, e94_117, e94_118, e94_121, e94_122, e94_125, e94_126, J_add, J_sub, J_mul, J_neg, J_lt, J_le, J_eq, gArr_J, gAst_J, gSiz_J, gFld_o, gUpd_o0, gUpd_o1, gUpd_o2, gUpd_o3, gUpd_o4, gUpd_o5, gUpd_o6, gUpd_o7, gUpd_o8, gUpd_o9, gUpd_o10, gUpd_o11, gUpd_o12, gUpd_o13, gUpd_o14, gUpd_o15, gUpd_o16, gUpd_o17, gUpd_o18, gIsO_o, Option.bind_some, List.getElem?_cons_zero, List.getElem?_cons_succ, List.length_cons, List.length_nil, List.set_cons_zero, List.set_cons_succ, gCat_nil, gCat_int, gCat_ref, if_pos, if_neg, Option.toList_some, Option.toList_none, List.cons_append, List.nil_append, B_nar, J1_nar, J0_nar, if_true, if_false, rd_wr_same, rd_wr_ne, true_and, and_true, B_0, B_1, not_true_eq_false, not_false_eq_true, j0, jK.2.1, jS.2.1, jH.1.2, c1, this]
    · rw [B_neg h] at c1
      rw [if_neg h] at e1
      by_cases h2 : (jnS K S n).2 < prs K (cb K S) n
      · rw [if_pos h2] at e1
        rw [e1] at this
        simp (disch := first | omega | exact Nat.le_of_ble_eq_true rfl) only [e94_0, e94_1, e94_2, e94_3, e94_6, e94_9, e94_10, e94_11, e94_12, e94_15, e94_16, e94_19, e94_20, e94_23, e94_24, e94_27, e94_30, e94_33, e94_35, e94_36, e94_38, e94_39, e94_40, e94_44, e94_45, e94_48, e94_51, e94_54, e94_55, e94_58, e94_59, e94_62, e94_64, e94_67, e94_70, e94_71, e94_74, e94_75, e94_78, e94_80, e94_81, e94_84, e94_85, e94_88, e94_90, e94_91, e94_94, e94_97, e94_99, e94_101, e94_102, e94_105, e94_107, e94_108, e94_110, e94_111, e94_114, e94_117, e94_118, e94_121, e94_122, e94_125, e94_126, J_add, J_sub, J_mul, J_neg, J_lt, J_le, J_eq, gArr_J, gAst_J, gSiz_J, gFld_o, gUpd_o0, gUpd_o1, gUpd_o2, gUpd_o3, gUpd_o4, gUpd_o5, gUpd_o6, gUpd_o7, gUpd_o8, gUpd_o9, gUpd_o10, gUpd_o11, gUpd_o12, gUpd_o13, gUpd_o14, gUpd_o15, gUpd_o16, gUpd_o17, gUpd_o18, gIsO_o, Option.bind_some, List.getElem?_cons_zero, List.getElem?_cons_succ, List.length_cons, List.length_nil, List.set_cons_zero, List.set_cons_succ, gCat_nil, gCat_int, gCat_ref, if_pos, if_neg, Option.toList_some, Option.toList_none, List.cons_append, List.nil_append, B_nar, J1_nar, J0_nar, if_true, if_false, rd_wr_same, rd_wr_ne, true_and, and_true, B_0, B_1, not_true_eq_false, not_false_eq_true, j0, jK.2.1, jS.2.1, jH.1.2, c1, c2, c3, c4, this]
      · rw [if_neg h2] at e1
        rw [e1] at this
        simp (disch := first | omega | exact Nat.le_of_ble_eq_true rfl) only [e94_0, e94_1, e94_2, e94_3, e94_6, e94_9, e94_10, e94_11, e94_12, e94_15, e94_16, e94_19, e94_20, e94_23, e94_24, e94_27, e94_30, e94_33, e94_35, e94_36, e94_38, e94_39, e94_40, e94_44, e94_45, e94_48, e94_51, e94_54, e94_55, e94_58, e94_59, e94_62, e94_64, e94_67, e94_70, e94_71, e94_74, e94_75, e94_78, e94_80, e94_81, e94_84, e94_85, e94_88, e94_90, e94_91, e94_94, e94_97, e94_99, e94_101, e94_102, e94_105, e94_107, e94_108, e94_110, e94_111, e94_114, e94_117, e94_118, e94_121, e94_122, e94_125, e94_126, J_add, J_sub, J_mul, J_neg, J_lt, J_le, J_eq, gArr_J, gAst_J, gSiz_J, gFld_o, gUpd_o0, gUpd_o1, gUpd_o2, gUpd_o3, gUpd_o4, gUpd_o5, gUpd_o6, gUpd_o7, gUpd_o8, gUpd_o9, gUpd_o10, gUpd_o11, gUpd_o12, gUpd_o13, gUpd_o14, gUpd_o15, gUpd_o16, gUpd_o17, gUpd_o18, gIsO_o, Option.bind_some, List.getElem?_cons_zero, List.getElem?_cons_succ, List.length_cons, List.length_nil, List.set_cons_zero, List.set_cons_succ, gCat_nil, gCat_int, gCat_ref, if_pos, if_neg, Option.toList_some, Option.toList_none, List.cons_append, List.nil_append, B_nar, J1_nar, J0_nar, if_true, if_false, rd_wr_same, rd_wr_ne, true_and, and_true, B_0, B_1, not_true_eq_false, not_false_eq_true, j0, jK.2.1, jS.2.1, jH.1.2, c1, c2, c3, c4, this]


theorem x94 {nat : gNat} {d : Nat} {w : gWd} {p q : Nat} {X K S : Lay} {PT KT : Nat → Lay} (hX : isX w p q X K S PT KT) (hK : vK K) (hS : vS K S) (hH : 0 ≤ S 0 0 ∧ S 0 0 < 1000000) {u : Int} (h_u : -2147483648 ≤ u ∧ u < 2147483648)  : ∃ w', gC nat (d + 25) 94 [.ref 0, .int (J u)] w = some (some (.int (J (aJoi K S u))), w') ∧ isX w' p q X K S PT KT ∧ (∀ z, 96 ≤ z → rd w' z = rd w z) ∧ w'.2 = w.2 := by
  rw [en94]
  obtain ⟨i0, iT, iR, iK, iQ, iS, inS, iTr, iP, iKp, iE, iH, iW, iD, hpq⟩ := id hX
  have c1 := s113 (nat := nat) (d := d + 23) (w := w) (x := u) (l := 0) (h := 1) (by omega) (by omega) (by omega)
  unfold aJoi
  by_cases h1 : 0 ≤ u ∧ u ≤ 1
  rotate_left
  · rw [B_neg h1] at c1
    rw [if_neg h1]
    refine ⟨w, ?_, hX, fun _ _ => rfl, rfl⟩
    simp (disch := first | omega | exact Nat.le_of_ble_eq_true rfl) only [e94_0, e94_1, e94_2, e94_3, e94_6, e94_9, e94_10, e94_11, e94_12, e94_15, e94_16, e94_19, e94_20, e94_23, e94_24, e94_27, e94_30, e94_33, e94_35, e94_36, e94_38, e94_39, e94_40, e94_44, e94_45, e94_48, e94_51, e94_54, e94_55, e94_58, e94_59, e94_62, e94_64, e94_67, e94_70, e94_71, e94_74, e94_75, e94_78, e94_80, e94_81, e94_84, e94_85, e94_88, e94_90, e94_91, e94_94, e94_97, e94_99, e94_101, e94_102, e94_105, e94_107, e94_108, e94_110, e94_111, e94_114, e94_117, e94_118, e94_121, e94_122, e94_125, e94_126, J_add, J_sub, J_mul, J_neg, J_lt, J_le, J_eq, gArr_J, gAst_J, gSiz_J, gFld_o, gUpd_o0, gUpd_o1, gUpd_o2, gUpd_o3, gUpd_o4, gUpd_o5, gUpd_o6, gUpd_o7, gUpd_o8, gUpd_o9, gUpd_o10, gUpd_o11, gUpd_o12, gUpd_o13, gUpd_o14, gUpd_o15, gUpd_o16, gUpd_o17, gUpd_o18, gIsO_o, Option.bind_some, List.getElem?_cons_zero, List.getElem?_cons_succ, List.length_cons, List.length_nil, List.set_cons_zero, List.set_cons_succ, gCat_nil, gCat_int, gCat_ref, if_pos, if_neg, Option.toList_some, Option.toList_none, List.cons_append, List.nil_append, B_nar, J1_nar, J0_nar, if_true, if_false, rd_wr_same, rd_wr_ne, true_and, and_true, B_0, B_1, not_true_eq_false, not_false_eq_true, i0, c1]
  rw [B_pos h1] at c1
  rw [if_pos h1]
  have c3 := s63x (nat := nat) (d := d + 21) hX hK hS
  have c4 := s7x (nat := nat) (d := d + 21) hX hK (cb_lt hK S)
  have := l94 (nat := nat) (d := d + 20) hX hK hS h1 (K 0 1).toNat 0 none (by omega)
  rw [show ((0 : Nat) : Int) = 0 from rfl, show (jnS K S 0).1 = -4 from rfl, show (jnS K S 0).2 = -4 from rfl] at this
  refine ⟨_, ?_, isX_hp hX (lab_far K (cb K S) (K 0 1).toNat), fun z hz => rdHn (by omega), rfl⟩
  refine Eq.trans ?_ this
  simp (disch := first | omega | exact Nat.le_of_ble_eq_true rfl) only [e94_0, e94_1, e94_2, e94_3, e94_6, e94_9, e94_10, e94_11, e94_12, e94_15, e94_16, e94_19, e94_20, e94_23, e94_24, e94_27, e94_30, e94_33, e94_35, e94_36, e94_38, e94_39, e94_40, e94_44, e94_45, e94_48, e94_51, e94_54, e94_55, e94_58, e94_59, e94_62, e94_64, e94_67, e94_70, e94_71, e94_74, e94_75, e94_78, e94_80, e94_81, e94_84, e94_85, e94_88, e94_90, e94_91, e94_94, e94_97, e94_99, e94_101, e94_102, e94_105, e94_107, e94_108, e94_110, e94_111, e94_114, e94_117, e94_118, e94_121, e94_122, e94_125, e94_126, J_add, J_sub, J_mul, J_neg, J_lt, J_le, J_eq, gArr_J, gAst_J, gSiz_J, gFld_o, gUpd_o0, gUpd_o1, gUpd_o2, gUpd_o3, gUpd_o4, gUpd_o5, gUpd_o6, gUpd_o7, gUpd_o8, gUpd_o9, gUpd_o10, gUpd_o11, gUpd_o12, gUpd_o13, gUpd_o14, gUpd_o15, gUpd_o16, gUpd_o17, gUpd_o18, gIsO_o, Option.bind_some, List.getElem?_cons_zero, List.getElem?_cons_succ, List.length_cons, List.length_nil, List.set_cons_zero, List.set_cons_succ, gCat_nil, gCat_int, gCat_ref, if_pos, if_neg, Option.toList_some, Option.toList_none, List.cons_append, List.nil_append, B_nar, J1_nar, J0_nar, if_true, if_false, rd_wr_same, rd_wr_ne, true_and, and_true, B_0, B_1, not_true_eq_false, not_false_eq_true, i0, iS.2.1, iH.1.2, c1, c3, c4]

def andn (a b : Nat) : Nat := a ^^^ (a &&& b)
theorem andn_bit (a b i : Nat) : (andn a b).testBit i = (a.testBit i && !b.testBit i) := by
  unfold andn
  rw [Nat.testBit_xor, Nat.testBit_and]
  cases a.testBit i <;> cases b.testBit i <;> rfl
theorem andn_le (a b : Nat) : andn a b ≤ a := by
  have h := Nat.and_le_left (n := a) (m := andn a b)
  have e : a &&& andn a b = andn a b := Nat.eq_of_testBit_eq fun i => by
    rw [Nat.testBit_and, andn_bit]
    cases a.testBit i <;> cases b.testBit i <;> rfl
  rw [e] at h
  exact h
theorem J_andn (a b : Nat) : J (a : Int) &&& (J (b : Int) ^^^ J (-1)) = J ((andn a b : Nat) : Int) := b_ext fun i hi => by
  rw [b_and, b_xor, bt_J hi, bt_J hi, bt_J hi, andn_bit, show J (-1) = (-1 : Int32) from by decide +kernel, b_m1 i hi]
  cases a.testBit i <;> cases b.testBit i <;> rfl
def ctS (K : Lay) (s : Nat) (a b : Int) : Nat → Int × Nat
  | 0 => (-4, 9)
  | n + 1 => if andn (n + 1) s = 0 ∧ pop (n + 1) < (ctS K s a b n).2 ∧ ¬ labK K (andn s (n + 1)) a = labK K (andn s (n + 1)) b then (((n + 1 : Nat) : Int), pop (n + 1)) else ctS K s a b n
theorem ctS_in (K : Lay) (s : Nat) (a b : Int) : ∀ n, n < 256 → (-4 ≤ (ctS K s a b n).1 ∧ (ctS K s a b n).1 < 256) ∧ (ctS K s a b n).2 ≤ 9 := by
  intro n
  induction n with
  | zero => intro _; exact ⟨⟨by show (-4 : Int) ≤ -4; decide, by show (-4 : Int) < 256; decide⟩, Nat.le_refl 9⟩
  | succ n ih =>
    intro hn
    have := ih (by omega)
    rw [ctS]
    split
    · have h8 : pop (n + 1) ≤ 8 := popN_le (n + 1) 8
      dsimp only
      omega
    · exact this
def aCut (K S : Lay) (a b : Int) : Int := if okP K a ∧ okP K b ∧ ¬ a = b then (if labK K (cb K S) a = labK K (cb K S) b then (ctS K (cb K S) a b (cb K S)).1 else -4) else -1
theorem l92 {nat : gNat} {d : Nat} {w : gWd} {p q : Nat} {X K S : Lay} {PT KT : Nat → Lay} (hX : isX w p q X K S PT KT) (hK : vK K) {a b : Int} (ha : 0 ≤ a ∧ a < 8) (hb' : 0 ≤ b ∧ b < 8) {s : Nat} (hs : s < 256) : ∀ (k n : Nat) (f : Int → Int), n + k = s → (∀ x : Int, 8 ≤ x → f x = 0) → ∃ f', (∀ x : Int, 8 ≤ x → f' x = 0) ∧ gX (gC nat (d + 4)) nat 92 73 [some (.ref 0), some (.int (J a)), some (.int (J b)), some (.int (J s)), some (.int (J (ctS K s a b n).1)), some (.int (J (ctS K s a b n).2)), some (.int (J (n + 1 : Nat)))] [] [] (putH w 69 f) = some (some (.int (J (ctS K s a b s).1)), putH w 69 f') := by
  have hb := gSTR_big
  intro k
  induction k with
  | zero =>
    intro n f hn hf
    rw [Nat.add_zero] at hn
    subst hn
    refine ⟨f, hf, ?_⟩
    rw [e92_73]
    simp (disch := first | omega | exact Nat.le_of_ble_eq_true rfl) only [e92_0, e92_1, e92_2, e92_5, e92_8, e92_9, e92_10, e92_13, e92_16, e92_17, e92_18, e92_21, e92_22, e92_23, e92_24, e92_27, e92_28, e92_31, e92_34, e92_35, e92_37, e92_39, e92_41, e92_43, e92_44, e92_47, e92_48, e92_51, e92_52, e92_55, e92_56, e92_59, e92_60, e92_61, e92_64, e92_67, e92_69, e92_70, e92_71, e92_75, e92_76, e92_79, e92_81, e92_82, e92_83, e92_84, e92_85, e92_88, e92_90, e92_93, e92_95, e92_98, e92_99, e92_102, e92_103, e92_106, e92_107, e92_109, e92_110, e92_111, e92_112, e92_115, e92_116, e92_119, e92_120, e92_121, e92_124, e92_127, e92_129, e92_131, e92_133, e92_136, e92_138, e92_141, e92_144, e92_146, J_add, J_sub, J_mul, J_neg, J_lt, J_le, J_eq, gArr_J, gAst_J, gSiz_J, gFld_o, gUpd_o0, gUpd_o1, gUpd_o2, gUpd_o3, gUpd_o4, gUpd_o5, gUpd_o6, gUpd_o7, gUpd_o8, gUpd_o9, gUpd_o10, gUpd_o11, gUpd_o12, gUpd_o13, gUpd_o14, gUpd_o15, gUpd_o16, gUpd_o17, gUpd_o18, gIsO_o, Option.bind_some, List.getElem?_cons_zero, List.getElem?_cons_succ, List.length_cons, List.length_nil, List.set_cons_zero, List.set_cons_succ, gCat_nil, gCat_int, gCat_ref, if_pos, if_neg, Option.toList_some, Option.toList_none, List.cons_append, List.nil_append, B_nar, J1_nar, J0_nar, if_true, if_false, rd_wr_same, rd_wr_ne, true_and, and_true, B_0, B_1, not_true_eq_false, not_false_eq_true]
  | succ k ih =>
    intro n f hn hf
    have hx := isX_hp hX hf
    obtain ⟨j0, jT, jR, jK, jQ, jS, jnS', jTr, jP, jKp, jE, jH, jW, jD, -⟩ := id hx
    have hi := ctS_in K s a b n (by omega)
    have h8 : pop (n + 1) ≤ 8 := popN_le (n + 1) 8
    have hle := andn_le (n + 1) s
    have hle2 := andn_le s (n + 1)
    have c1 := s192 (nat := nat) (d := d + 3) (w := putH w 69 f) (s := n + 1) (by omega)
    have c2 := s7x (nat := nat) (d := d + 1) hx hK (s := andn s (n + 1)) (by omega)
    rw [putH_putH] at c2
    have c3 := s9x (nat := nat) (d := d + 2) (w := w) (by exact ⟨jH.1.1, by have := jH.1.2; rw [rdHn (by omega)] at this; exact this⟩) hK (s := andn s (n + 1)) ha hb'
    have c4 := s192 (nat := nat) (d := d + 3) (w := putH w 69 (labK K (andn s (n + 1)))) (s := n + 1) (by omega)
    have f1 : rd (putH w 69 (labK K (andn s (n + 1)))) 69 = oC 1 [.ref (69 + 1)] := by rw [rdHn (by omega)]; have := jH.1.2; rw [rdHn (by omega)] at this; exact this
    have f0 : rd (putH w 69 (labK K (andn s (n + 1)))) 0 = rd (putH w 69 f) 0 := by rw [rdHn (by omega), rdHn (by omega)]
    rw [j0] at f0
    have ez : (J ((andn (n + 1) s : Nat) : Int) = J 0) = (andn (n + 1) s = 0) := by
      rw [show J 0 = J ((0 : Nat) : Int) from rfl, J_eqN (by omega) (by omega)]
    have e1 : ctS K s a b (n + 1) = if andn (n + 1) s = 0 ∧ pop (n + 1) < (ctS K s a b n).2 ∧ ¬ labK K (andn s (n + 1)) a = labK K (andn s (n + 1)) b then (((n + 1 : Nat) : Int), pop (n + 1)) else ctS K s a b n := rfl
    have en : J ((n + 1 : Nat) : Int) + J 1 = J ((n + 1 + 1 : Nat) : Int) := by rw [J_add]; rfl
    rw [e92_73]
    by_cases h1 : andn (n + 1) s = 0
    · rw [← ez] at h1
      by_cases h2 : pop (n + 1) < (ctS K s a b n).2
      · obtain ⟨f', g1, g2⟩ := ih (n + 1) (labK K (andn s (n + 1))) (by omega) (lab_far K _ (K 0 1).toNat)
        refine ⟨f', g1, ?_⟩
        by_cases h3 : labK K (andn s (n + 1)) a = labK K (andn s (n + 1)) b
        · rw [B_pos h3] at c3
          rw [e1, if_neg (fun z => z.2.2 h3)] at g2
          rw [← g2]
          simp (disch := first | omega | exact Nat.le_of_ble_eq_true rfl) only [e92_0, e92_1, e92_2, e92_5, e92_8, e92_9, e92_10, e92_13, e92_16, e92_17, e92_18, e92_21, e92_22, e92_23, e92_24, e92_27, e92_28, e92_31, e92_34, e92_35, e92_37, e92_39, e92_41, e92_43, e92_44, e92_47, e92_48, e92_51, e92_52, e92_55, e92_56, e92_59, e92_60, e92_61, e92_64, e92_67, e92_69, e92_70, e92_71, e92_75, e92_76, e92_79, e92_81, e92_82, e92_83, e92_84, e92_85, e92_88, e92_90, e92_93, e92_95, e92_98, e92_99, e92_102, e92_103, e92_106, e92_107, e92_109, e92_110, e92_111, e92_112, e92_115, e92_116, e92_119, e92_120, e92_121, e92_124, e92_127, e92_129, e92_131, e92_133, e92_136, e92_138, e92_141, e92_144, e92_146, J_add, J_sub, J_mul, J_neg, J_lt, J_le, J_eq, gArr_J, gAst_J, gSiz_J, gFld_o, gUpd_o0, gUpd_o1, gUpd_o2, gUpd_o3, gUpd_o4, gUpd_o5, gUpd_o6, gUpd_o7, gUpd_o8, gUpd_o9, gUpd_o10, gUpd_o11, gUpd_o12, gUpd_o13, gUpd_o14, gUpd_o15, gUpd_o16, gUpd_o17, gUpd_o18, gIsO_o, Option.bind_some, List.getElem?_cons_zero, List.getElem?_cons_succ, List.length_cons, List.length_nil, List.set_cons_zero, List.set_cons_succ, gCat_nil, gCat_int, gCat_ref, if_pos, if_neg, Option.toList_some, Option.toList_none, List.cons_append, List.nil_append, B_nar, J1_nar, J0_nar, if_true, if_false, rd_wr_same, rd_wr_ne, true_and, and_true, B_0, B_1, not_true_eq_false, not_false_eq_true, J_andn, h1, en, c1, c2, c3, j0, jK.2.1, f0, f1, jH.1.2]
        · rw [B_neg h3] at c3
          rw [e1, if_pos ⟨by rw [ez] at h1; exact h1, h2, h3⟩] at g2
          rw [← g2]
          simp (disch := first | omega | exact Nat.le_of_ble_eq_true rfl) only [e92_0, e92_1, e92_2, e92_5, e92_8, e92_9, e92_10, e92_13, e92_16, e92_17, e92_18, e92_21, e92_22, e92_23, e92_24, e92_27, e92_28, e92_31, e92_34, e92_35, e92_37, e92_39, e92_41, e92_43, e92_44, e92_47, e92_48, e92_51, e92_52, e92_55, e92_56, e92_59, e92_60, e92_61, e92_64, e92_67, e92_69, e92_70, e92_71, e92_75, e92_76, e92_79, e92_81, e92_82, e92_83, e92_84, e92_85, e92_88, e92_90, e92_93, e92_95, e92_98, e92_99, e92_102, e92_103, e92_106, e92_107, e92_109, e92_110, e92_111, e92_112, e92_115, e92_116, e92_119, e92_120, e92_121, e92_124, e92_127, e92_129, e92_131, e92_133, e92_136, e92_138, e92_141, e92_144, e92_146, J_add, J_sub, J_mul, J_neg, J_lt, J_le, J_eq, gArr_J, gAst_J, gSiz_J, gFld_o, gUpd_o0, gUpd_o1, gUpd_o2, gUpd_o3, gUpd_o4, gUpd_o5, gUpd_o6, gUpd_o7, gUpd_o8, gUpd_o9, gUpd_o10, gUpd_o11, gUpd_o12, gUpd_o13, gUpd_o14, gUpd_o15, gUpd_o16, gUpd_o17, gUpd_o18, gIsO_o, Option.bind_some, List.getElem?_cons_zero, List.getElem?_cons_succ, List.length_cons, List.length_nil, List.set_cons_zero, List.set_cons_succ, gCat_nil, gCat_int, gCat_ref, if_pos, if_neg, Option.toList_some, Option.toList_none, List.cons_append, List.nil_append, B_nar, J1_nar, J0_nar, if_true, if_false, rd_wr_same, rd_wr_ne, true_and, and_true, B_0, B_1, not_true_eq_false, not_false_eq_true, J_andn, h1, en, c1, c2, c3, c4, j0, jK.2.1, f0, f1, jH.1.2]
      · obtain ⟨f', g1, g2⟩ := ih (n + 1) f (by omega) hf
        refine ⟨f', g1, ?_⟩
        rw [e1, if_neg (fun z => h2 z.2.1)] at g2
        rw [← g2]
        simp (disch := first | omega | exact Nat.le_of_ble_eq_true rfl) only [e92_0, e92_1, e92_2, e92_5, e92_8, e92_9, e92_10, e92_13, e92_16, e92_17, e92_18, e92_21, e92_22, e92_23, e92_24, e92_27, e92_28, e92_31, e92_34, e92_35, e92_37, e92_39, e92_41, e92_43, e92_44, e92_47, e92_48, e92_51, e92_52, e92_55, e92_56, e92_59, e92_60, e92_61, e92_64, e92_67, e92_69, e92_70, e92_71, e92_75, e92_76, e92_79, e92_81, e92_82, e92_83, e92_84, e92_85, e92_88, e92_90, e92_93, e92_95, e92_98, e92_99, e92_102, e92_103, e92_106, e92_107, e92_109, e92_110, e92_111, e92_112, e92_115, e92_116, e92_119, e92_120, e92_121, e92_124, e92_127, e92_129, e92_131, e92_133, e92_136, e92_138, e92_141, e92_144, e92_146, J_add, J_sub, J_mul, J_neg, J_lt, J_le, J_eq, gArr_J, gAst_J, gSiz_J, gFld_o, gUpd_o0, gUpd_o1, gUpd_o2, gUpd_o3, gUpd_o4, gUpd_o5, gUpd_o6, gUpd_o7, gUpd_o8, gUpd_o9, gUpd_o10, gUpd_o11, gUpd_o12, gUpd_o13, gUpd_o14, gUpd_o15, gUpd_o16, gUpd_o17, gUpd_o18, gIsO_o, Option.bind_some, List.getElem?_cons_zero, List.getElem?_cons_succ, List.length_cons, List.length_nil, List.set_cons_zero, List.set_cons_succ, gCat_nil, gCat_int, gCat_ref, if_pos, if_neg, Option.toList_some, Option.toList_none, List.cons_append, List.nil_append, B_nar, J1_nar, J0_nar, if_true, if_false, rd_wr_same, rd_wr_ne, true_and, and_true, B_0, B_1, not_true_eq_false, not_false_eq_true, J_andn, h1, en, c1]
    · obtain ⟨f', g1, g2⟩ := ih (n + 1) f (by omega) hf
      refine ⟨f', g1, ?_⟩
      rw [e1, if_neg (fun z => h1 z.1)] at g2
      rw [← g2]
      rw [← ez] at h1
      simp (disch := first | omega | exact Nat.le_of_ble_eq_true rfl) only [e92_0, e92_1, e92_2, e92_5, e92_8, e92_9, e92_10, e92_13, e92_16, e92_17, e92_18, e92_21, e92_22, e92_23, e92_24, e92_27, e92_28, e92_31, e92_34, e92_35, e92_37, e92_39, e92_41, e92_43, e92_44, e92_47, e92_48, e92_51, e92_52, e92_55, e92_56, e92_59, e92_60, e92_61, e92_64, e92_67, e92_69, e92_70, e92_71, e92_75, e92_76, e92_79, e92_81, e92_82, e92_83, e92_84, e92_85, e92_88, e92_90, e92_93, e92_95, e92_98, e92_99, e92_102, e92_103, e92_106, e92_107, e92_109, e92_110, e92_111, e92_112, e92_115, e92_116, e92_119, e92_120, e92_121, e92_124, e92_127, e92_129, e92_131, e92_133, e92_136, e92_138, e92_141, e92_144, e92_146, J_add, J_sub, J_mul, J_neg, J_lt, J_le, J_eq, gArr_J, gAst_J, gSiz_J, gFld_o, gUpd_o0, gUpd_o1, gUpd_o2, gUpd_o3, gUpd_o4, gUpd_o5, gUpd_o6, gUpd_o7, gUpd_o8, gUpd_o9, gUpd_o10, gUpd_o11, gUpd_o12, gUpd_o13, gUpd_o14, gUpd_o15, gUpd_o16, gUpd_o17, gUpd_o18, gIsO_o, Option.bind_some, List.getElem?_cons_zero, List.getElem?_cons_succ, List.length_cons, List.length_nil, List.set_cons_zero, List.set_cons_succ, gCat_nil, gCat_int, gCat_ref, if_pos, if_neg, Option.toList_some, Option.toList_none, List.cons_append, List.nil_append, B_nar, J1_nar, J0_nar, if_true, if_false, rd_wr_same, rd_wr_ne, true_and, and_true, B_0, B_1, not_true_eq_false, not_false_eq_true, J_andn, h1, en]

theorem x92 {nat : gNat} {d : Nat} {w : gWd} {p q : Nat} {X K S : Lay} {PT KT : Nat → Lay} (hX : isX w p q X K S PT KT) (hK : vK K) (hS : vS K S) (hH : 0 ≤ S 0 0 ∧ S 0 0 < 1000000) {a b : Int} (h_a : -2147483648 ≤ a ∧ a < 2147483648) (h_b : -2147483648 ≤ b ∧ b < 2147483648)  : ∃ w', gC nat (d + 25) 92 [.ref 0, .int (J a), .int (J b)] w = some (some (.int (J (aCut K S a b))), w') ∧ isX w' p q X K S PT KT ∧ (∀ z, 96 ≤ z → rd w' z = rd w z) ∧ w'.2 = w.2 := by
  rw [en92]
  obtain ⟨i0, iT, iR, iK, iQ, iS, inS, iTr, iP, iKp, iE, iH, iW, iD, hpq⟩ := id hX
  have c1 := s107 (nat := nat) (d := d + 22) (w := w) i0 iK hK (g := a) h_a
  have c2 := s107 (nat := nat) (d := d + 22) (w := w) i0 iK hK (g := b) h_b
  have hb := gSTR_big
  have k0 := hK.1
  unfold aCut
  by_cases h1 : okP K a
  rotate_left
  · rw [B_neg h1] at c1
    rw [if_neg (fun z => h1 z.1)]
    refine ⟨w, ?_, hX, fun _ _ => rfl, rfl⟩
    simp (disch := first | omega | exact Nat.le_of_ble_eq_true rfl) only [e92_0, e92_1, e92_2, e92_5, e92_8, e92_9, e92_10, e92_13, e92_16, e92_17, e92_18, e92_21, e92_22, e92_23, e92_24, e92_27, e92_28, e92_31, e92_34, e92_35, e92_37, e92_39, e92_41, e92_43, e92_44, e92_47, e92_48, e92_51, e92_52, e92_55, e92_56, e92_59, e92_60, e92_61, e92_64, e92_67, e92_69, e92_70, e92_71, e92_75, e92_76, e92_79, e92_81, e92_82, e92_83, e92_84, e92_85, e92_88, e92_90, e92_93, e92_95, e92_98, e92_99, e92_102, e92_103, e92_106, e92_107, e92_109, e92_110, e92_111, e92_112, e92_115, e92_116, e92_119, e92_120, e92_121, e92_124, e92_127, e92_129, e92_131, e92_133, e92_136, e92_138, e92_141, e92_144, e92_146, J_add, J_sub, J_mul, J_neg, J_lt, J_le, J_eq, gArr_J, gAst_J, gSiz_J, gFld_o, gUpd_o0, gUpd_o1, gUpd_o2, gUpd_o3, gUpd_o4, gUpd_o5, gUpd_o6, gUpd_o7, gUpd_o8, gUpd_o9, gUpd_o10, gUpd_o11, gUpd_o12, gUpd_o13, gUpd_o14, gUpd_o15, gUpd_o16, gUpd_o17, gUpd_o18, gIsO_o, Option.bind_some, List.getElem?_cons_zero, List.getElem?_cons_succ, List.length_cons, List.length_nil, List.set_cons_zero, List.set_cons_succ, gCat_nil, gCat_int, gCat_ref, if_pos, if_neg, Option.toList_some, Option.toList_none, List.cons_append, List.nil_append, B_nar, J1_nar, J0_nar, if_true, if_false, rd_wr_same, rd_wr_ne, true_and, and_true, B_0, B_1, not_true_eq_false, not_false_eq_true, i0, c1]
  rw [B_pos h1] at c1
  by_cases h2 : okP K b
  rotate_left
  · rw [B_neg h2] at c2
    rw [if_neg (fun z => h2 z.2.1)]
    refine ⟨w, ?_, hX, fun _ _ => rfl, rfl⟩
    simp (disch := first | omega | exact Nat.le_of_ble_eq_true rfl) only [e92_0, e92_1, e92_2, e92_5, e92_8, e92_9, e92_10, e92_13, e92_16, e92_17, e92_18, e92_21, e92_22, e92_23, e92_24, e92_27, e92_28, e92_31, e92_34, e92_35, e92_37, e92_39, e92_41, e92_43, e92_44, e92_47, e92_48, e92_51, e92_52, e92_55, e92_56, e92_59, e92_60, e92_61, e92_64, e92_67, e92_69, e92_70, e92_71, e92_75, e92_76, e92_79, e92_81, e92_82, e92_83, e92_84, e92_85, e92_88, e92_90, e92_93, e92_95, e92_98, e92_99, e92_102, e92_103, e92_106, e92_107, e92_109, e92_110, e92_111, e92_112, e92_115, e92_116, e92_119, e92_120, e92_121, e92_124, e92_127, e92_129, e92_131, e92_133, e92_136, e92_138, e92_141, e92_144, e92_146, J_add, J_sub, J_mul, J_neg, J_lt, J_le, J_eq, gArr_J, gAst_J, gSiz_J, gFld_o, gUpd_o0, gUpd_o1, gUpd_o2, gUpd_o3, gUpd_o4, gUpd_o5, gUpd_o6, gUpd_o7, gUpd_o8, gUpd_o9, gUpd_o10, gUpd_o11, gUpd_o12, gUpd_o13, gUpd_o14, gUpd_o15, gUpd_o16, gUpd_o17, gUpd_o18, gIsO_o, Option.bind_some, List.getElem?_cons_zero, List.getElem?_cons_succ, List.length_cons, List.length_nil, List.set_cons_zero, List.set_cons_succ, gCat_nil, gCat_int, gCat_ref, if_pos, if_neg, Option.toList_some, Option.toList_none, List.cons_append, List.nil_append, B_nar, J1_nar, J0_nar, if_true, if_false, rd_wr_same, rd_wr_ne, true_and, and_true, B_0, B_1, not_true_eq_false, not_false_eq_true, i0, c1, c2]
  rw [B_pos h2] at c2
  by_cases h3 : a = b
  · rw [if_neg (fun z => z.2.2 h3)]
    refine ⟨w, ?_, hX, fun _ _ => rfl, rfl⟩
    simp (disch := first | omega | exact Nat.le_of_ble_eq_true rfl) only [e92_0, e92_1, e92_2, e92_5, e92_8, e92_9, e92_10, e92_13, e92_16, e92_17, e92_18, e92_21, e92_22, e92_23, e92_24, e92_27, e92_28, e92_31, e92_34, e92_35, e92_37, e92_39, e92_41, e92_43, e92_44, e92_47, e92_48, e92_51, e92_52, e92_55, e92_56, e92_59, e92_60, e92_61, e92_64, e92_67, e92_69, e92_70, e92_71, e92_75, e92_76, e92_79, e92_81, e92_82, e92_83, e92_84, e92_85, e92_88, e92_90, e92_93, e92_95, e92_98, e92_99, e92_102, e92_103, e92_106, e92_107, e92_109, e92_110, e92_111, e92_112, e92_115, e92_116, e92_119, e92_120, e92_121, e92_124, e92_127, e92_129, e92_131, e92_133, e92_136, e92_138, e92_141, e92_144, e92_146, J_add, J_sub, J_mul, J_neg, J_lt, J_le, J_eq, gArr_J, gAst_J, gSiz_J, gFld_o, gUpd_o0, gUpd_o1, gUpd_o2, gUpd_o3, gUpd_o4, gUpd_o5, gUpd_o6, gUpd_o7, gUpd_o8, gUpd_o9, gUpd_o10, gUpd_o11, gUpd_o12, gUpd_o13, gUpd_o14, gUpd_o15, gUpd_o16, gUpd_o17, gUpd_o18, gIsO_o, Option.bind_some, List.getElem?_cons_zero, List.getElem?_cons_succ, List.length_cons, List.length_nil, List.set_cons_zero, List.set_cons_succ, gCat_nil, gCat_int, gCat_ref, if_pos, if_neg, Option.toList_some, Option.toList_none, List.cons_append, List.nil_append, B_nar, J1_nar, J0_nar, if_true, if_false, rd_wr_same, rd_wr_ne, true_and, and_true, B_0, B_1, not_true_eq_false, not_false_eq_true, i0, c1, c2]
  rw [if_pos ⟨h1, h2, h3⟩]
  have c3 := s63x (nat := nat) (d := d + 21) hX hK hS
  have c4 := s7x (nat := nat) (d := d + 21) hX hK (cb_lt hK S)
  have c5 := s9x (nat := nat) (d := d + 22) iH.1 hK (s := cb K S) (x := a) (y := b) (by omega) (by omega)
  have f0 : rd (putH w 69 (labK K (cb K S))) 0 = _ := (rdHn (by omega)).trans i0
  have f1 : rd (putH w 69 (labK K (cb K S))) 69 = _ := rdH0 iH.1
  have hl := lab_inK hK (cb K S) 
  by_cases h4 : labK K (cb K S) a = labK K (cb K S) b
  · rw [B_pos h4] at c5
    rw [if_pos h4]
    obtain ⟨f', g1, g2⟩ := l92 (nat := nat) (d := d + 20) hX hK (a := a) (b := b) (by omega) (by omega) (cb_lt hK S) (cb K S) 0 (labK K (cb K S)) (by omega) (lab_far K (cb K S) (K 0 1).toNat)
    rw [show ((0 + 1 : Nat) : Int) = 1 from rfl, show (ctS K (cb K S) a b 0).1 = -4 from rfl, show (((ctS K (cb K S) a b 0).2 : Nat) : Int) = 9 from rfl] at g2
    refine ⟨_, ?_, isX_hp hX g1, fun z hz => rdHn (by omega), rfl⟩
    refine Eq.trans ?_ g2
    simp (disch := first | omega | exact Nat.le_of_ble_eq_true rfl) only [e92_0, e92_1, e92_2, e92_5, e92_8, e92_9, e92_10, e92_13, e92_16, e92_17, e92_18, e92_21, e92_22, e92_23, e92_24, e92_27, e92_28, e92_31, e92_34, e92_35, e92_37, e92_39, e92_41, e92_43, e92_44, e92_47, e92_48, e92_51, e92_52, e92_55, e92_56, e92_59, e92_60, e92_61, e92_64, e92_67, e92_69, e92_70, e92_71, e92_75, e92_76, e92_79, e92_81, e92_82, e92_83, e92_84, e92_85, e92_88, e92_90, e92_93, e92_95, e92_98, e92_99, e92_102, e92_103, e92_106, e92_107, e92_109, e92_110, e92_111, e92_112, e92_115, e92_116, e92_119, e92_120, e92_121, e92_124, e92_127, e92_129, e92_131, e92_133, e92_136, e92_138, e92_141, e92_144, e92_146, J_add, J_sub, J_mul, J_neg, J_lt, J_le, J_eq, gArr_J, gAst_J, gSiz_J, gFld_o, gUpd_o0, gUpd_o1, gUpd_o2, gUpd_o3, gUpd_o4, gUpd_o5, gUpd_o6, gUpd_o7, gUpd_o8, gUpd_o9, gUpd_o10, gUpd_o11, gUpd_o12, gUpd_o13, gUpd_o14, gUpd_o15, gUpd_o16, gUpd_o17, gUpd_o18, gIsO_o, Option.bind_some, List.getElem?_cons_zero, List.getElem?_cons_succ, List.length_cons, List.length_nil, List.set_cons_zero, List.set_cons_succ, gCat_nil, gCat_int, gCat_ref, if_pos, if_neg, Option.toList_some, Option.toList_none, List.cons_append, List.nil_append, B_nar, J1_nar, J0_nar, if_true, if_false, rd_wr_same, rd_wr_ne, true_and, and_true, B_0, B_1, not_true_eq_false, not_false_eq_true, i0, iS.2.1, iH.1.2, c1, c2, c3, c4, c5, f0, f1]
  · rw [B_neg h4] at c5
    rw [if_neg h4]
    refine ⟨_, ?_, isX_hp hX (lab_far K (cb K S) (K 0 1).toNat), fun z hz => rdHn (by omega), rfl⟩
    simp (disch := first | omega | exact Nat.le_of_ble_eq_true rfl) only [e92_0, e92_1, e92_2, e92_5, e92_8, e92_9, e92_10, e92_13, e92_16, e92_17, e92_18, e92_21, e92_22, e92_23, e92_24, e92_27, e92_28, e92_31, e92_34, e92_35, e92_37, e92_39, e92_41, e92_43, e92_44, e92_47, e92_48, e92_51, e92_52, e92_55, e92_56, e92_59, e92_60, e92_61, e92_64, e92_67, e92_69, e92_70, e92_71, e92_75, e92_76, e92_79, e92_81, e92_82, e92_83, e92_84, e92_85, e92_88, e92_90, e92_93, e92_95, e92_98, e92_99, e92_102, e92_103, e92_106, e92_107, e92_109, e92_110, e92_111, e92_112, e92_115, e92_116, e92_119, e92_120, e92_121, e92_124, e92_127, e92_129, e92_131, e92_133, e92_136, e92_138, e92_141, e92_144, e92_146, J_add, J_sub, J_mul, J_neg, J_lt, J_le, J_eq, gArr_J, gAst_J, gSiz_J, gFld_o, gUpd_o0, gUpd_o1, gUpd_o2, gUpd_o3, gUpd_o4, gUpd_o5, gUpd_o6, gUpd_o7, gUpd_o8, gUpd_o9, gUpd_o10, gUpd_o11, gUpd_o12, gUpd_o13, gUpd_o14, gUpd_o15, gUpd_o16, gUpd_o17, gUpd_o18, gIsO_o, Option.bind_some, List.getElem?_cons_zero, List.getElem?_cons_succ, List.length_cons, List.length_nil, List.set_cons_zero, List.set_cons_succ, gCat_nil, gCat_int, gCat_ref, if_pos, if_neg, Option.toList_some, Option.toList_none, List.cons_append, List.nil_append, B_nar, J1_nar, J0_nar, if_true, if_false, rd_wr_same, rd_wr_ne, true_and, and_true, B_0, B_1, not_true_eq_false, not_false_eq_true, i0, iS.2.1, iH.1.2, c1, c2, c3, c4, c5, f0, f1]
