def gol (g : Int) : Int := if g = -1 then -4 else g
abbrev sndI (K : Lay) (x g : Int) : Prop := okD K x ∧ (g = -1 ∨ okG K g)
abbrev sndB (K S : Lay) (x g : Int) : Prop := S 2 x = gol g ∨ (gol g ≠ -4 ∧ K 1 (5 * gol g + 4) ≤ S 1 (gol g))
abbrev sndC (K S : Lay) (x g : Int) : Prop := sndI K x g ∧ ¬ sndB K S x g
def aSnd (K S : Lay) (x g : Int) : Int := if sndI K x g then (if sndB K S x g then -2 else S 2 x) else -1

theorem x84 {nat : gNat} {d : Nat} {w : gWd} {p q : Nat} {X K S : Lay} {PT KT : Nat → Lay} (hX : isX w p q X K S PT KT) (hK : vK K) (hS : vS K S) (hH : 0 ≤ S 0 0 ∧ S 0 0 < 1000000) (hr : rX X) {x g : Int} (h_x : -2147483648 ≤ x ∧ x < 2147483648) (h_g : -2147483648 ≤ g ∧ g < 2147483648)  : ∃ w', gC nat (d + 25) 84 [.ref 0, .int (J x), .int (J g)] w = some (some (.int (J (aSnd K S x g))), w') ∧ isX w' p q (if sndC K S x g then pX X else X) K (if sndC K S x g then sset S 2 x (gol g) else S) (if sndC K S x g then pT X S PT else PT) KT ∧ (∀ z, 96 ≤ z → rd w' z = rd w z) ∧ w'.2 = w.2 := by
  rw [en84]
  obtain ⟨i0, iT, iR, iK, iQ, iS, inS, iTr, iP, iKp, iE, iH, iW, iD, hpq⟩ := id hX
  have hb := gSTR_big
  have k1 := hK.2.1
  have k2 := hK.2.2.1
  unfold aSnd
  have c1 := s106 (nat := nat) (d := d + 22) (w := w) i0 iK hK (g := x) h_x
  have c2 := s105 (nat := nat) (d := d + 22) (w := w) i0 iK hK (g := g) h_g
  have bad : ¬ sndC K S x g → ∀ v, (gX (gC nat (d + 24)) nat 84 0 [some (.ref 0), some (.int (J x)), some (.int (J g)), none, none] [] [] w = some (some (.int (J v)), w)) → ∃ w', gX (gC nat (d + 24)) nat 84 0 [some (.ref 0), some (.int (J x)), some (.int (J g)), none, none] [] [] w = some (some (.int (J v)), w') ∧ isX w' p q (if sndC K S x g then pX X else X) K (if sndC K S x g then sset S 2 x (gol g) else S) (if sndC K S x g then pT X S PT else PT) KT ∧ (∀ z, 96 ≤ z → rd w' z = rd w z) ∧ w'.2 = w.2 := fun hn v hv => by
    simp only [if_neg hn]
    exact ⟨w, hv, hX, fun _ _ => rfl, rfl⟩
  by_cases h1 : okD K x
  · rw [B_pos h1] at c1
    by_cases h2 : g = -1 ∨ okG K g
    · rw [if_pos ⟨h1, h2⟩]
      have hg2 : gol g = -4 ∨ (0 ≤ gol g ∧ gol g < K 0 1) := by unfold gol; split <;> omega
      have hgol : gX (gC nat (d + 24)) nat 84 0 [some (.ref 0), some (.int (J x)), some (.int (J g)), none, none] [] [] w = gX (gC nat (d + 24)) nat 84 34 [some (.ref 0), some (.int (J x)), some (.int (J g)), none, none] [] [.int (J (gol g))] w := by
        unfold gol
        by_cases h3 : g = -1
        · rw [if_pos h3]
          simp (disch := first | omega | exact Nat.le_of_ble_eq_true rfl) only [e84_0, e84_1, e84_2, e84_5, e84_8, e84_9, e84_10, e84_13, e84_14, e84_15, e84_18, e84_21, e84_22, e84_23, e84_24, e84_25, e84_28, e84_30, e84_33, e84_35, e84_36, e84_39, e84_40, e84_43, e84_45, e84_47, e84_48, e84_51, e84_52, e84_54, e84_57, e84_58, e84_61, e84_62, e84_65, e84_66, e84_69, e84_72, e84_74, e84_75, e84_76, e84_79, e84_80, e84_83, e84_86, e84_87, e84_90, e84_91, e84_92, e84_95, e84_97, J_add, J_sub, J_mul, J_neg, J_lt, J_le, J_eq, gArr_J, gAst_J, gSiz_J, gFld_o, gUpd_o0, gUpd_o1, gUpd_o2, gUpd_o3, gUpd_o4, gUpd_o5, gUpd_o6, gUpd_o7, gUpd_o8, gUpd_o9, gUpd_o10, gUpd_o11, gUpd_o12, gUpd_o13, gUpd_o14, gUpd_o15, gUpd_o16, gUpd_o17, gUpd_o18, gIsO_o, Option.bind_some, List.getElem?_cons_zero, List.getElem?_cons_succ, List.length_cons, List.length_nil, List.set_cons_zero, List.set_cons_succ, gCat_nil, gCat_int, gCat_ref, if_pos, if_neg, Option.toList_some, Option.toList_none, List.cons_append, List.nil_append, B_nar, J1_nar, J0_nar, if_true, if_false, rd_wr_same, rd_wr_ne, true_and, and_true, B_0, B_1, not_true_eq_false, not_false_eq_true, i0, c1, c2]
        · rw [if_neg h3]
          rw [B_pos (h2.resolve_left h3)] at c2
          simp (disch := first | omega | exact Nat.le_of_ble_eq_true rfl) only [e84_0, e84_1, e84_2, e84_5, e84_8, e84_9, e84_10, e84_13, e84_14, e84_15, e84_18, e84_21, e84_22, e84_23, e84_24, e84_25, e84_28, e84_30, e84_33, e84_35, e84_36, e84_39, e84_40, e84_43, e84_45, e84_47, e84_48, e84_51, e84_52, e84_54, e84_57, e84_58, e84_61, e84_62, e84_65, e84_66, e84_69, e84_72, e84_74, e84_75, e84_76, e84_79, e84_80, e84_83, e84_86, e84_87, e84_90, e84_91, e84_92, e84_95, e84_97, J_add, J_sub, J_mul, J_neg, J_lt, J_le, J_eq, gArr_J, gAst_J, gSiz_J, gFld_o, gUpd_o0, gUpd_o1, gUpd_o2, gUpd_o3, gUpd_o4, gUpd_o5, gUpd_o6, gUpd_o7, gUpd_o8, gUpd_o9, gUpd_o10, gUpd_o11, gUpd_o12, gUpd_o13, gUpd_o14, gUpd_o15, gUpd_o16, gUpd_o17, gUpd_o18, gIsO_o, Option.bind_some, List.getElem?_cons_zero, List.getElem?_cons_succ, List.length_cons, List.length_nil, List.set_cons_zero, List.set_cons_succ, gCat_nil, gCat_int, gCat_ref, if_pos, if_neg, Option.toList_some, Option.toList_none, List.cons_append, List.nil_append, B_nar, J1_nar, J0_nar, if_true, if_false, rd_wr_same, rd_wr_ne, true_and, and_true, B_0, B_1, not_true_eq_false, not_false_eq_true, i0, c1, c2]
      have c3 := s61 (nat := nat) (d := d + 22) (w := w) (a := 12) (S := S) iS.1 (g := x) (by omega)
      rw [putS_self iS] at c3
      have hS2 := hS.2.2.1 x h1.1 (by omega)
      by_cases h3 : sndB K S x g
      · rw [if_pos h3]
        refine bad (fun z => z.2 h3) (-2) ?_
        rw [hgol]
        rcases h3 with h3 | ⟨h3, h4⟩
        · rw [e84_34]
          simp (disch := first | omega | exact Nat.le_of_ble_eq_true rfl) only [e84_0, e84_1, e84_2, e84_5, e84_8, e84_9, e84_10, e84_13, e84_14, e84_15, e84_18, e84_21, e84_22, e84_23, e84_24, e84_25, e84_28, e84_30, e84_33, e84_35, e84_36, e84_39, e84_40, e84_43, e84_45, e84_47, e84_48, e84_51, e84_52, e84_54, e84_57, e84_58, e84_61, e84_62, e84_65, e84_66, e84_69, e84_72, e84_74, e84_75, e84_76, e84_79, e84_80, e84_83, e84_86, e84_87, e84_90, e84_91, e84_92, e84_95, e84_97, J_add, J_sub, J_mul, J_neg, J_lt, J_le, J_eq, gArr_J, gAst_J, gSiz_J, gFld_o, gUpd_o0, gUpd_o1, gUpd_o2, gUpd_o3, gUpd_o4, gUpd_o5, gUpd_o6, gUpd_o7, gUpd_o8, gUpd_o9, gUpd_o10, gUpd_o11, gUpd_o12, gUpd_o13, gUpd_o14, gUpd_o15, gUpd_o16, gUpd_o17, gUpd_o18, gIsO_o, Option.bind_some, List.getElem?_cons_zero, List.getElem?_cons_succ, List.length_cons, List.length_nil, List.set_cons_zero, List.set_cons_succ, gCat_nil, gCat_int, gCat_ref, if_pos, if_neg, Option.toList_some, Option.toList_none, List.cons_append, List.nil_append, B_nar, J1_nar, J0_nar, if_true, if_false, rd_wr_same, rd_wr_ne, true_and, and_true, B_0, B_1, not_true_eq_false, not_false_eq_true, i0, c3, iS.2.1]
        · have c4 := s62x (nat := nat) (d := d + 22) hX hK hS (g := gol g) (by omega)
          rw [B_pos h4] at c4
          rw [e84_34]
          by_cases h5 : S 2 x = gol g
          ·
            simp (disch := first | omega | exact Nat.le_of_ble_eq_true rfl) only [e84_0, e84_1, e84_2, e84_5, e84_8, e84_9, e84_10, e84_13, e84_14, e84_15, e84_18, e84_21, e84_22, e84_23, e84_24, e84_25, e84_28, e84_30, e84_33, e84_35, e84_36, e84_39, e84_40, e84_43, e84_45, e84_47, e84_48, e84_51, e84_52, e84_54, e84_57, e84_58, e84_61, e84_62, e84_65, e84_66, e84_69, e84_72, e84_74, e84_75, e84_76, e84_79, e84_80, e84_83, e84_86, e84_87, e84_90, e84_91, e84_92, e84_95, e84_97, J_add, J_sub, J_mul, J_neg, J_lt, J_le, J_eq, gArr_J, gAst_J, gSiz_J, gFld_o, gUpd_o0, gUpd_o1, gUpd_o2, gUpd_o3, gUpd_o4, gUpd_o5, gUpd_o6, gUpd_o7, gUpd_o8, gUpd_o9, gUpd_o10, gUpd_o11, gUpd_o12, gUpd_o13, gUpd_o14, gUpd_o15, gUpd_o16, gUpd_o17, gUpd_o18, gIsO_o, Option.bind_some, List.getElem?_cons_zero, List.getElem?_cons_succ, List.length_cons, List.length_nil, List.set_cons_zero, List.set_cons_succ, gCat_nil, gCat_int, gCat_ref, if_pos, if_neg, Option.toList_some, Option.toList_none, List.cons_append, List.nil_append, B_nar, J1_nar, J0_nar, if_true, if_false, rd_wr_same, rd_wr_ne, true_and, and_true, B_0, B_1, not_true_eq_false, not_false_eq_true, i0, c3, c4, iS.2.1]
          ·
            simp (disch := first | omega | exact Nat.le_of_ble_eq_true rfl) only [e84_0, e84_1, e84_2, e84_5, e84_8, e84_9, e84_10, e84_13, e84_14, e84_15, e84_18, e84_21, e84_22, e84_23, e84_24, e84_25, e84_28, e84_30, e84_33, e84_35, e84_36, e84_39, e84_40, e84_43, e84_45, e84_47, e84_48, e84_51, e84_52, e84_54, e84_57, e84_58, e84_61, e84_62, e84_65, e84_66, e84_69, e84_72, e84_74, e84_75, e84_76, e84_79, e84_80, e84_83, e84_86, e84_87, e84_90, e84_91, e84_92, e84_95, e84_97, J_add, J_sub, J_mul, J_neg, J_lt, J_le, J_eq, gArr_J, gAst_J, gSiz_J, gFld_o, gUpd_o0, gUpd_o1, gUpd_o2, gUpd_o3, gUpd_o4, gUpd_o5, gUpd_o6, gUpd_o7, gUpd_o8, gUpd_o9, gUpd_o10, gUpd_o11, gUpd_o12, gUpd_o13, gUpd_o14, gUpd_o15, gUpd_o16, gUpd_o17, gUpd_o18, gIsO_o, Option.bind_some, List.getElem?_cons_zero, List.getElem?_cons_succ, List.length_cons, List.length_nil, List.set_cons_zero, List.set_cons_succ, gCat_nil, gCat_int, gCat_ref, if_pos, if_neg, Option.toList_some, Option.toList_none, List.cons_append, List.nil_append, B_nar, J1_nar, J0_nar, if_true, if_false, rd_wr_same, rd_wr_ne, true_and, and_true, B_0, B_1, not_true_eq_false, not_false_eq_true, i0, c3, c4, iS.2.1]
      · rw [if_neg h3, hgol]
        have hC : sndC K S x g := ⟨⟨h1, h2⟩, h3⟩
        simp only [if_pos hC]
        have h5 : ¬ S 2 x = gol g := fun z => h3 (Or.inl z)
        obtain ⟨w1, g1, g2, g3, g4, g5⟩ := s52x (nat := nat) (d := d + 21) hX hr
        obtain ⟨j0, jT, jR, jK, jQ, jS, jnS, jTr, jP, jKp, jE, jH, jW, jD, -⟩ := id g2
        have c6 := s66 (nat := nat) (d := d + 22) (w := w1) (a := 12) (S := S) jS.1 (x := x) (g := gol g) (by omega)
        rw [putS_self jS] at c6
        have f0 : rd w1 0 = _ := g3.trans i0
        refine ⟨_, ?_, isX_now g2 (nS_sset inS (by omega)), fun z hz => (rd_putS (by omega)).trans (g4 z hz), g5⟩
        rw [e84_34]
        by_cases h6 : gol g = -4
        · rw [h6] at c6 h5 ⊢
          simp (disch := first | omega | exact Nat.le_of_ble_eq_true rfl) only [e84_0, e84_1, e84_2, e84_5, e84_8, e84_9, e84_10, e84_13, e84_14, e84_15, e84_18, e84_21, e84_22, e84_23, e84_24, e84_25, e84_28, e84_30, e84_33, e84_35, e84_36, e84_39, e84_40, e84_43, e84_45, e84_47, e84_48, e84_51, e84_52, e84_54, e84_57, e84_58, e84_61, e84_62, e84_65, e84_66, e84_69, e84_72, e84_74, e84_75, e84_76, e84_79, e84_80, e84_83, e84_86, e84_87, e84_90, e84_91, e84_92, e84_95, e84_97, J_add, J_sub, J_mul, J_neg, J_lt, J_le, J_eq, gArr_J, gAst_J, gSiz_J, gFld_o, gUpd_o0, gUpd_o1, gUpd_o2, gUpd_o3, gUpd_o4, gUpd_o5, gUpd_o6, gUpd_o7, gUpd_o8, gUpd_o9, gUpd_o10, gUpd_o11, gUpd_o12, gUpd_o13, gUpd_o14, gUpd_o15, gUpd_o16, gUpd_o17, gUpd_o18, gIsO_o, Option.bind_some, List.getElem?_cons_zero, List.getElem?_cons_succ, List.length_cons, List.length_nil, List.set_cons_zero, List.set_cons_succ, gCat_nil, gCat_int, gCat_ref, if_pos, if_neg, Option.toList_some, Option.toList_none, List.cons_append, List.nil_append, B_nar, J1_nar, J0_nar, if_true, if_false, rd_wr_same, rd_wr_ne, true_and, and_true, B_0, B_1, not_true_eq_false, not_false_eq_true, i0, c3, g1, c6, f0, iS.2.1, iP.2.1, jS.2.1]
        · have c4 := s62x (nat := nat) (d := d + 22) hX hK hS (g := gol g) (by omega)
          rw [B_neg (fun z => h3 (Or.inr ⟨h6, z⟩))] at c4
          simp (disch := first | omega | exact Nat.le_of_ble_eq_true rfl) only [e84_0, e84_1, e84_2, e84_5, e84_8, e84_9, e84_10, e84_13, e84_14, e84_15, e84_18, e84_21, e84_22, e84_23, e84_24, e84_25, e84_28, e84_30, e84_33, e84_35, e84_36, e84_39, e84_40, e84_43, e84_45, e84_47, e84_48, e84_51, e84_52, e84_54, e84_57, e84_58, e84_61, e84_62, e84_65, e84_66, e84_69, e84_72, e84_74, e84_75, e84_76, e84_79, e84_80, e84_83, e84_86, e84_87, e84_90, e84_91, e84_92, e84_95, e84_97, J_add, J_sub, J_mul, J_neg, J_lt, J_le, J_eq, gArr_J, gAst_J, gSiz_J, gFld_o, gUpd_o0, gUpd_o1, gUpd_o2, gUpd_o3, gUpd_o4, gUpd_o5, gUpd_o6, gUpd_o7, gUpd_o8, gUpd_o9, gUpd_o10, gUpd_o11, gUpd_o12, gUpd_o13, gUpd_o14, gUpd_o15, gUpd_o16, gUpd_o17, gUpd_o18, gIsO_o, Option.bind_some, List.getElem?_cons_zero, List.getElem?_cons_succ, List.length_cons, List.length_nil, List.set_cons_zero, List.set_cons_succ, gCat_nil, gCat_int, gCat_ref, if_pos, if_neg, Option.toList_some, Option.toList_none, List.cons_append, List.nil_append, B_nar, J1_nar, J0_nar, if_true, if_false, rd_wr_same, rd_wr_ne, true_and, and_true, B_0, B_1, not_true_eq_false, not_false_eq_true, i0, c3, c4, g1, c6, f0, iS.2.1, iP.2.1, jS.2.1]
    · rw [if_neg (fun z => h2 z.2)]
      refine bad (fun z => h2 z.1.2) (-1) ?_
      rw [B_neg (fun z => h2 (Or.inr z))] at c2
      have h3 : ¬ g = -1 := fun z => h2 (Or.inl z)
      simp (disch := first | omega | exact Nat.le_of_ble_eq_true rfl) only [e84_0, e84_1, e84_2, e84_5, e84_8, e84_9, e84_10, e84_13, e84_14, e84_15, e84_18, e84_21, e84_22, e84_23, e84_24, e84_25, e84_28, e84_30, e84_33, e84_35, e84_36, e84_39, e84_40, e84_43, e84_45, e84_47, e84_48, e84_51, e84_52, e84_54, e84_57, e84_58, e84_61, e84_62, e84_65, e84_66, e84_69, e84_72, e84_74, e84_75, e84_76, e84_79, e84_80, e84_83, e84_86, e84_87, e84_90, e84_91, e84_92, e84_95, e84_97, J_add, J_sub, J_mul, J_neg, J_lt, J_le, J_eq, gArr_J, gAst_J, gSiz_J, gFld_o, gUpd_o0, gUpd_o1, gUpd_o2, gUpd_o3, gUpd_o4, gUpd_o5, gUpd_o6, gUpd_o7, gUpd_o8, gUpd_o9, gUpd_o10, gUpd_o11, gUpd_o12, gUpd_o13, gUpd_o14, gUpd_o15, gUpd_o16, gUpd_o17, gUpd_o18, gIsO_o, Option.bind_some, List.getElem?_cons_zero, List.getElem?_cons_succ, List.length_cons, List.length_nil, List.set_cons_zero, List.set_cons_succ, gCat_nil, gCat_int, gCat_ref, if_pos, if_neg, Option.toList_some, Option.toList_none, List.cons_append, List.nil_append, B_nar, J1_nar, J0_nar, if_true, if_false, rd_wr_same, rd_wr_ne, true_and, and_true, B_0, B_1, not_true_eq_false, not_false_eq_true, i0, c1, c2]
  · rw [B_neg h1] at c1
    rw [if_neg (fun z => h1 z.1)]
    refine bad (fun z => h1 z.1.1) (-1) ?_
    simp (disch := first | omega | exact Nat.le_of_ble_eq_true rfl) only [e84_0, e84_1, e84_2, e84_5, e84_8, e84_9, e84_10, e84_13, e84_14, e84_15, e84_18, e84_21, e84_22, e84_23, e84_24, e84_25, e84_28, e84_30, e84_33, e84_35, e84_36, e84_39, e84_40, e84_43, e84_45, e84_47, e84_48, e84_51, e84_52, e84_54, e84_57, e84_58, e84_61, e84_62, e84_65, e84_66, e84_69, e84_72, e84_74, e84_75, e84_76, e84_79, e84_80, e84_83, e84_86, e84_87, e84_90, e84_91, e84_92, e84_95, e84_97, J_add, J_sub, J_mul, J_neg, J_lt, J_le, J_eq, gArr_J, gAst_J, gSiz_J, gFld_o, gUpd_o0, gUpd_o1, gUpd_o2, gUpd_o3, gUpd_o4, gUpd_o5, gUpd_o6, gUpd_o7, gUpd_o8, gUpd_o9, gUpd_o10, gUpd_o11, gUpd_o12, gUpd_o13, gUpd_o14, gUpd_o15, gUpd_o16, gUpd_o17, gUpd_o18, gIsO_o, Option.bind_some, List.getElem?_cons_zero, List.getElem?_cons_succ, List.length_cons, List.length_nil, List.set_cons_zero, List.set_cons_succ, gCat_nil, gCat_int, gCat_ref, if_pos, if_neg, Option.toList_some, Option.toList_none, List.cons_append, List.nil_append, B_nar, J1_nar, J0_nar, if_true, if_false, rd_wr_same, rd_wr_ne, true_and, and_true, B_0, B_1, not_true_eq_false, not_false_eq_true, i0, c1]

abbrev frgC (K S : Lay) (g : Int) : Prop := okG K g ∧ K 1 (5 * g + 4) ≤ S 1 g
def aFrg (K S : Lay) (g : Int) : Int := if okG K g then (if K 1 (5 * g + 4) ≤ S 1 g then (pop (cb K (sset S 1 g 0)) : Nat) else -2) else -1
theorem vS_cut {K S : Lay} (hK : vK K) (hS : vS K S) {g : Int} (hg : 0 ≤ g ∧ g < K 0 1) : vS K (sset S 1 g 0) := by
  obtain ⟨s0, s1, s2, s3⟩ := hS
  have hw := fun g g1 g2 => (hK.2.2.2.2.2.1 g g1 g2).2.2.2.2.2
  refine ⟨by rw [sset_row (by decide)]; exact s0, fun y y1 y2 => ?_, fun y y1 y2 => ?_, by rw [sset_row (by decide)]; exact s3⟩
  · rw [sset_fset]
    have := s1 y y1 y2
    have := hw y y1 y2
    by_cases q : y = g
    · rw [q, fset_at]; rw [q] at this; omega
    · rw [fset_ne q]; omega
  · rw [sset_row (b := 2) (by decide), sset_fset]
    rcases s2 y y1 y2 with h | ⟨h1, h2, h3, h4⟩
    · exact Or.inl h
    · refine Or.inr ⟨h1, h2, h3, ?_⟩
      have := hw _ h2 h3
      by_cases q : S 2 y = g
      · rw [q, fset_at]; rw [q] at this; omega
      · rw [fset_ne q]; exact h4

theorem x86 {nat : gNat} {d : Nat} {w : gWd} {p q : Nat} {X K S : Lay} {PT KT : Nat → Lay} (hX : isX w p q X K S PT KT) (hK : vK K) (hS : vS K S) (hH : 0 ≤ S 0 0 ∧ S 0 0 < 1000000) (hr : rX X) {g : Int} (h_g : -2147483648 ≤ g ∧ g < 2147483648)  : ∃ w', gC nat (d + 25) 86 [.ref 0, .int (J g)] w = some (some (.int (J (aFrg K S g))), w') ∧ isX w' p q (if frgC K S g then pX X else X) K (if frgC K S g then sset S 1 g 0 else S) (if frgC K S g then pT X S PT else PT) KT ∧ (∀ z, 96 ≤ z → rd w' z = rd w z) ∧ w'.2 = w.2 := by
  rw [en86]
  obtain ⟨i0, iT, iR, iK, iQ, iS, inS, iTr, iP, iKp, iE, iH, iW, iD, hpq⟩ := id hX
  have hb := gSTR_big
  have k1 := hK.2.1
  unfold aFrg
  have c1 := s105 (nat := nat) (d := d + 22) (w := w) i0 iK hK (g := g) h_g
  by_cases h1 : okG K g
  · rw [B_pos h1] at c1
    rw [if_pos h1]
    have c2 := s62x (nat := nat) (d := d + 22) hX hK hS (g := g) h1
    by_cases h2 : K 1 (5 * g + 4) ≤ S 1 g
    · rw [B_pos h2] at c2
      rw [if_pos h2]
      have hC : frgC K S g := ⟨h1, h2⟩
      simp only [if_pos hC]
      obtain ⟨w1, g1, g2, g3, g4, g5⟩ := s52x (nat := nat) (d := d + 21) hX hr
      obtain ⟨j0, jT, jR, jK, jQ, jS, jnS, jTr, jP, jKp, jE, jH, jW, jD, -⟩ := id g2
      have c6 := s68 (nat := nat) (d := d + 22) (w := w1) (a := 12) (S := S) jS.1 (g := g) (by omega)
      rw [putS_self jS] at c6
      have hn := isX_now g2 (nS_sset inS (a := 1) (i := g) (v := 0) (by omega))
      have c7 := s63x (nat := nat) (d := d + 21) hn hK (vS_cut hK hS (by omega))
      have c8 := s192 (nat := nat) (d := d + 23) (w := putS w1 12 (sset S 1 g 0)) (cb_lt hK (sset S 1 g 0))
      have f0 : rd w1 0 = _ := g3.trans i0
      have f1 : rd (putS w1 12 (sset S 1 g 0)) 0 = _ := (rd_putS (by omega)).trans f0
      have f2 : rd (putS w1 12 (sset S 1 g 0)) 12 = _ := rdP0
      refine ⟨_, ?_, hn, fun z hz => (rd_putS (by omega)).trans (g4 z hz), g5⟩
      simp (disch := first | omega | exact Nat.le_of_ble_eq_true rfl) only [e86_0, e86_1, e86_2, e86_5, e86_8, e86_9, e86_10, e86_11, e86_14, e86_15, e86_18, e86_19, e86_22, e86_25, e86_27, e86_28, e86_29, e86_32, e86_33, e86_36, e86_39, e86_40, e86_43, e86_44, e86_47, e86_48, e86_51, e86_52, e86_55, e86_58, e86_61, J_add, J_sub, J_mul, J_neg, J_lt, J_le, J_eq, gArr_J, gAst_J, gSiz_J, gFld_o, gUpd_o0, gUpd_o1, gUpd_o2, gUpd_o3, gUpd_o4, gUpd_o5, gUpd_o6, gUpd_o7, gUpd_o8, gUpd_o9, gUpd_o10, gUpd_o11, gUpd_o12, gUpd_o13, gUpd_o14, gUpd_o15, gUpd_o16, gUpd_o17, gUpd_o18, gIsO_o, Option.bind_some, List.getElem?_cons_zero, List.getElem?_cons_succ, List.length_cons, List.length_nil, List.set_cons_zero, List.set_cons_succ, gCat_nil, gCat_int, gCat_ref, if_pos, if_neg, Option.toList_some, Option.toList_none, List.cons_append, List.nil_append, B_nar, J1_nar, J0_nar, if_true, if_false, rd_wr_same, rd_wr_ne, true_and, and_true, B_0, B_1, not_true_eq_false, not_false_eq_true, i0, c1, c2, g1, c6, c7, c8, f0, f1, f2, iS.2.1, iP.2.1, jS.2.1]
    · rw [B_neg h2] at c2
      rw [if_neg h2]
      simp only [if_neg (show ¬ frgC K S g from fun z => h2 z.2)]
      refine ⟨w, ?_, hX, fun _ _ => rfl, rfl⟩
      simp (disch := first | omega | exact Nat.le_of_ble_eq_true rfl) only [e86_0, e86_1, e86_2, e86_5, e86_8, e86_9, e86_10, e86_11, e86_14, e86_15, e86_18, e86_19, e86_22, e86_25, e86_27, e86_28, e86_29, e86_32, e86_33, e86_36, e86_39, e86_40, e86_43, e86_44, e86_47, e86_48, e86_51, e86_52, e86_55, e86_58, e86_61, J_add, J_sub, J_mul, J_neg, J_lt, J_le, J_eq, gArr_J, gAst_J, gSiz_J, gFld_o, gUpd_o0, gUpd_o1, gUpd_o2, gUpd_o3, gUpd_o4, gUpd_o5, gUpd_o6, gUpd_o7, gUpd_o8, gUpd_o9, gUpd_o10, gUpd_o11, gUpd_o12, gUpd_o13, gUpd_o14, gUpd_o15, gUpd_o16, gUpd_o17, gUpd_o18, gIsO_o, Option.bind_some, List.getElem?_cons_zero, List.getElem?_cons_succ, List.length_cons, List.length_nil, List.set_cons_zero, List.set_cons_succ, gCat_nil, gCat_int, gCat_ref, if_pos, if_neg, Option.toList_some, Option.toList_none, List.cons_append, List.nil_append, B_nar, J1_nar, J0_nar, if_true, if_false, rd_wr_same, rd_wr_ne, true_and, and_true, B_0, B_1, not_true_eq_false, not_false_eq_true, i0, c1, c2, iS.2.1]
  · rw [B_neg h1] at c1
    rw [if_neg h1]
    simp only [if_neg (show ¬ frgC K S g from fun z => h1 z.1)]
    refine ⟨w, ?_, hX, fun _ _ => rfl, rfl⟩
    simp (disch := first | omega | exact Nat.le_of_ble_eq_true rfl) only [e86_0, e86_1, e86_2, e86_5, e86_8, e86_9, e86_10, e86_11, e86_14, e86_15, e86_18, e86_19, e86_22, e86_25, e86_27, e86_28, e86_29, e86_32, e86_33, e86_36, e86_39, e86_40, e86_43, e86_44, e86_47, e86_48, e86_51, e86_52, e86_55, e86_58, e86_61, J_add, J_sub, J_mul, J_neg, J_lt, J_le, J_eq, gArr_J, gAst_J, gSiz_J, gFld_o, gUpd_o0, gUpd_o1, gUpd_o2, gUpd_o3, gUpd_o4, gUpd_o5, gUpd_o6, gUpd_o7, gUpd_o8, gUpd_o9, gUpd_o10, gUpd_o11, gUpd_o12, gUpd_o13, gUpd_o14, gUpd_o15, gUpd_o16, gUpd_o17, gUpd_o18, gIsO_o, Option.bind_some, List.getElem?_cons_zero, List.getElem?_cons_succ, List.length_cons, List.length_nil, List.set_cons_zero, List.set_cons_succ, gCat_nil, gCat_int, gCat_ref, if_pos, if_neg, Option.toList_some, Option.toList_none, List.cons_append, List.nil_append, B_nar, J1_nar, J0_nar, if_true, if_false, rd_wr_same, rd_wr_ne, true_and, and_true, B_0, B_1, not_true_eq_false, not_false_eq_true, i0, c1]

theorem x87 {nat : gNat} {d : Nat} {w : gWd} {p q : Nat} {X K S : Lay} {PT KT : Nat → Lay} (hX : isX w p q X K S PT KT) (hK : vK K) (hS : vS K S) (hH : 0 ≤ S 0 0 ∧ S 0 0 < 1000000) (hr : rX X) : ∃ w', gC nat (d + 25) 87 [.ref 0] w = some (some (.int (J (if X 0 1 < 1 then -2 else X 0 1 - 1))), w') ∧ isX w' p q (if X 0 1 < 1 then X else sset X 0 1 (X 0 1 - 1)) K (if X 0 1 < 1 then S else PT ((X 0 2 + (X 0 1 - 1)) % 8).toNat) PT KT ∧ (∀ z, 96 ≤ z → rd w' z = rd w z) ∧ w'.2 = w.2 := by
  rw [en87]
  obtain ⟨i0, iT, iR, iK, iQ, iS, inS, iTr, iP, iKp, iE, iH, iW, iD, hpq⟩ := id hX
  obtain ⟨r0, rT, r1, r2, r3, r4⟩ := hr
  by_cases h : X 0 1 < 1
  · simp only [if_pos h]
    refine ⟨w, ?_, hX, fun _ _ => rfl, rfl⟩
    simp (disch := first | omega | exact Nat.le_of_ble_eq_true rfl) only [e87_0, e87_1, e87_4, e87_7, e87_8, e87_11, e87_13, e87_14, e87_15, e87_18, e87_19, e87_22, e87_25, e87_26, e87_29, e87_32, J_add, J_sub, J_mul, J_neg, J_lt, J_le, J_eq, gArr_J, gAst_J, gSiz_J, gFld_o, gUpd_o0, gUpd_o1, gUpd_o2, gUpd_o3, gUpd_o4, gUpd_o5, gUpd_o6, gUpd_o7, gUpd_o8, gUpd_o9, gUpd_o10, gUpd_o11, gUpd_o12, gUpd_o13, gUpd_o14, gUpd_o15, gUpd_o16, gUpd_o17, gUpd_o18, gIsO_o, Option.bind_some, List.getElem?_cons_zero, List.getElem?_cons_succ, List.length_cons, List.length_nil, List.set_cons_zero, List.set_cons_succ, gCat_nil, gCat_int, gCat_ref, if_pos, if_neg, Option.toList_some, Option.toList_none, List.cons_append, List.nil_append, B_nar, J1_nar, J0_nar, if_true, if_false, rd_wr_same, rd_wr_ne, true_and, and_true, B_0, B_1, not_true_eq_false, not_false_eq_true, i0, iP.2.1]
  · simp only [if_neg h]
    obtain ⟨w', g1, g2, g3, g4, g5⟩ := s53 (nat := nat) (d := d + 21) iP (by omega) (by omega) (by omega) iS inS (by omega) (by omega)
    have F : ∀ z, ((z < 20 ∨ 54 ≤ z) ∧ (z < 12 ∨ 15 < z)) → rd w' z = rd w z := fun z hz => g4 z (by omega) (by omega)
    have hk := (iP.2.2.2 ((X 0 2 + (X 0 1 - 1)) % 8).toNat (by omega)).2
    have f0 : rd w' 0 = _ := (F 0 (by omega)).trans i0
    refine ⟨w', ?_, ⟨(by rw [F 0 (by omega)]; exact i0), (by rw [F 1 (by omega)]; exact iT), (cR_fr iR (fun z z1 z2 => F z (by omega))), (isMe_fr iK (fun z z1 z2 => F z (by omega))), (cQ_fr iQ (fun z z1 z2 => F z (by omega))), g3, hk, (cTr_fr iTr (fun z z1 z2 => F z (by omega))), g2, (isSh_fr iKp (fun z z1 z2 => F z (by omega))), (cE_fr iE (fun z z1 z2 => F z (by omega))), (cH_fr iH (fun z z1 z2 => F z (by omega))), (cW_fr iW (fun z z1 z2 => F z (by omega))), (cD_fr iD (fun z z1 z2 => F z (by omega))), hpq⟩, fun z hz => F z (by omega), g5⟩
    simp (disch := first | omega | exact Nat.le_of_ble_eq_true rfl) only [e87_0, e87_1, e87_4, e87_7, e87_8, e87_11, e87_13, e87_14, e87_15, e87_18, e87_19, e87_22, e87_25, e87_26, e87_29, e87_32, J_add, J_sub, J_mul, J_neg, J_lt, J_le, J_eq, gArr_J, gAst_J, gSiz_J, gFld_o, gUpd_o0, gUpd_o1, gUpd_o2, gUpd_o3, gUpd_o4, gUpd_o5, gUpd_o6, gUpd_o7, gUpd_o8, gUpd_o9, gUpd_o10, gUpd_o11, gUpd_o12, gUpd_o13, gUpd_o14, gUpd_o15, gUpd_o16, gUpd_o17, gUpd_o18, gIsO_o, Option.bind_some, List.getElem?_cons_zero, List.getElem?_cons_succ, List.length_cons, List.length_nil, List.set_cons_zero, List.set_cons_succ, gCat_nil, gCat_int, gCat_ref, if_pos, if_neg, Option.toList_some, Option.toList_none, List.cons_append, List.nil_append, B_nar, J1_nar, J0_nar, if_true, if_false, rd_wr_same, rd_wr_ne, true_and, and_true, B_0, B_1, not_true_eq_false, not_false_eq_true, i0, iP.2.1, iS.2.1, g1, f0, g2.2.1]

theorem x101 {nat : gNat} {d : Nat} {w : gWd} {p q : Nat} {X K S : Lay} {PT KT : Nat → Lay} (hX : isX w p q X K S PT KT) (hK : vK K) (hS : vS K S) (hH : 0 ≤ S 0 0 ∧ S 0 0 < 1000000) (hr : rX X) : ∃ w', gC nat (d + 25) 101 [.ref 0] w = some (some (.int (J (if 2 ≤ X 0 3 then -3 else X 0 3 + 1))), w') ∧ isX w' p q (if 2 ≤ X 0 3 then X else sset X 0 3 (X 0 3 + 1)) K S PT (if 2 ≤ X 0 3 then KT else fun i => if i = (X 0 3).toNat then S else KT i) ∧ (∀ z, 96 ≤ z → rd w' z = rd w z) ∧ w'.2 = w.2 := by
  rw [en101]
  obtain ⟨i0, iT, iR, iK, iQ, iS, inS, iTr, iP, iKp, iE, iH, iW, iD, hpq⟩ := id hX
  obtain ⟨r0, rT, r1, r2, r3, r4⟩ := hr
  by_cases h : 2 ≤ X 0 3
  · simp only [if_pos h]
    refine ⟨w, ?_, hX, fun _ _ => rfl, rfl⟩
    simp (disch := first | omega | exact Nat.le_of_ble_eq_true rfl) only [e101_0, e101_1, e101_4, e101_7, e101_8, e101_11, e101_13, e101_14, e101_15, e101_18, e101_19, e101_22, e101_25, e101_26, e101_29, e101_32, J_add, J_sub, J_mul, J_neg, J_lt, J_le, J_eq, gArr_J, gAst_J, gSiz_J, gFld_o, gUpd_o0, gUpd_o1, gUpd_o2, gUpd_o3, gUpd_o4, gUpd_o5, gUpd_o6, gUpd_o7, gUpd_o8, gUpd_o9, gUpd_o10, gUpd_o11, gUpd_o12, gUpd_o13, gUpd_o14, gUpd_o15, gUpd_o16, gUpd_o17, gUpd_o18, gIsO_o, Option.bind_some, List.getElem?_cons_zero, List.getElem?_cons_succ, List.length_cons, List.length_nil, List.set_cons_zero, List.set_cons_succ, gCat_nil, gCat_int, gCat_ref, if_pos, if_neg, Option.toList_some, Option.toList_none, List.cons_append, List.nil_append, B_nar, J1_nar, J0_nar, if_true, if_false, rd_wr_same, rd_wr_ne, true_and, and_true, B_0, B_1, not_true_eq_false, not_false_eq_true, i0, iKp.2.1]
  · simp only [if_neg h]
    obtain ⟨w', g1, g2, g3, g4⟩ := s52 (nat := nat) (d := d + 21) iKp (by omega) (by omega) (by omega) iS inS (by omega)
    rw [if_pos (show X 0 3 < ((2 : Nat) : Int) by omega), if_pos (show X 0 3 < ((2 : Nat) : Int) by omega), if_pos (show X 0 3 < ((2 : Nat) : Int) by omega), show (0 + X 0 3) % ((2 : Nat) : Int) = X 0 3 by omega] at g2
    have F : ∀ z, (z < 54 ∨ 64 ≤ z) → rd w' z = rd w z := fun z hz => g3 z (by omega)
    have f0 : rd w' 0 = _ := (F 0 (by omega)).trans i0
    refine ⟨w', ?_, ⟨(by rw [F 0 (by omega)]; exact i0), (by rw [F 1 (by omega)]; exact iT), (cR_fr iR (fun z z1 z2 => F z (by omega))), (isMe_fr iK (fun z z1 z2 => F z (by omega))), (cQ_fr iQ (fun z z1 z2 => F z (by omega))), (isSt_fr iS (fun z z1 z2 => F z (by omega))), inS, (cTr_fr iTr (fun z z1 z2 => F z (by omega))), (isSh_fr iP (fun z z1 z2 => F z (by omega))), g2, (cE_fr iE (fun z z1 z2 => F z (by omega))), (cH_fr iH (fun z z1 z2 => F z (by omega))), (cW_fr iW (fun z z1 z2 => F z (by omega))), (cD_fr iD (fun z z1 z2 => F z (by omega))), hpq⟩, fun z hz => F z (by omega), g4⟩
    simp (disch := first | omega | exact Nat.le_of_ble_eq_true rfl) only [e101_0, e101_1, e101_4, e101_7, e101_8, e101_11, e101_13, e101_14, e101_15, e101_18, e101_19, e101_22, e101_25, e101_26, e101_29, e101_32, J_add, J_sub, J_mul, J_neg, J_lt, J_le, J_eq, gArr_J, gAst_J, gSiz_J, gFld_o, gUpd_o0, gUpd_o1, gUpd_o2, gUpd_o3, gUpd_o4, gUpd_o5, gUpd_o6, gUpd_o7, gUpd_o8, gUpd_o9, gUpd_o10, gUpd_o11, gUpd_o12, gUpd_o13, gUpd_o14, gUpd_o15, gUpd_o16, gUpd_o17, gUpd_o18, gIsO_o, Option.bind_some, List.getElem?_cons_zero, List.getElem?_cons_succ, List.length_cons, List.length_nil, List.set_cons_zero, List.set_cons_succ, gCat_nil, gCat_int, gCat_ref, if_pos, if_neg, Option.toList_some, Option.toList_none, List.cons_append, List.nil_append, B_nar, J1_nar, J0_nar, if_true, if_false, rd_wr_same, rd_wr_ne, true_and, and_true, B_0, B_1, not_true_eq_false, not_false_eq_true, i0, iKp.2.1, iS.2.1, g1, f0, g2.2.1]

theorem x102 {nat : gNat} {d : Nat} {w : gWd} {p q : Nat} {X K S : Lay} {PT KT : Nat → Lay} (hX : isX w p q X K S PT KT) (hK : vK K) (hS : vS K S) (hH : 0 ≤ S 0 0 ∧ S 0 0 < 1000000) (hr : rX X) : ∃ w', gC nat (d + 25) 102 [.ref 0] w = some (some (.int (J (if X 0 3 < 1 then -2 else X 0 3 - 1))), w') ∧ isX w' p q (if X 0 3 < 1 then X else sset (sset X 0 3 (X 0 3 - 1)) 0 1 0) K (if X 0 3 < 1 then S else KT (X 0 3 - 1).toNat) PT KT ∧ (∀ z, 96 ≤ z → rd w' z = rd w z) ∧ w'.2 = w.2 := by
  rw [en102]
  obtain ⟨i0, iT, iR, iK, iQ, iS, inS, iTr, iP, iKp, iE, iH, iW, iD, hpq⟩ := id hX
  obtain ⟨r0, rT, r1, r2, r3, r4⟩ := hr
  by_cases h : X 0 3 < 1
  · simp only [if_pos h]
    refine ⟨w, ?_, hX, fun _ _ => rfl, rfl⟩
    simp (disch := first | omega | exact Nat.le_of_ble_eq_true rfl) only [e102_0, e102_1, e102_4, e102_7, e102_8, e102_11, e102_13, e102_14, e102_15, e102_18, e102_19, e102_22, e102_25, e102_26, e102_29, e102_32, e102_33, e102_36, e102_39, J_add, J_sub, J_mul, J_neg, J_lt, J_le, J_eq, gArr_J, gAst_J, gSiz_J, gFld_o, gUpd_o0, gUpd_o1, gUpd_o2, gUpd_o3, gUpd_o4, gUpd_o5, gUpd_o6, gUpd_o7, gUpd_o8, gUpd_o9, gUpd_o10, gUpd_o11, gUpd_o12, gUpd_o13, gUpd_o14, gUpd_o15, gUpd_o16, gUpd_o17, gUpd_o18, gIsO_o, Option.bind_some, List.getElem?_cons_zero, List.getElem?_cons_succ, List.length_cons, List.length_nil, List.set_cons_zero, List.set_cons_succ, gCat_nil, gCat_int, gCat_ref, if_pos, if_neg, Option.toList_some, Option.toList_none, List.cons_append, List.nil_append, B_nar, J1_nar, J0_nar, if_true, if_false, rd_wr_same, rd_wr_ne, true_and, and_true, B_0, B_1, not_true_eq_false, not_false_eq_true, i0, iKp.2.1]
  · simp only [if_neg h]
    obtain ⟨w1, g1, g2, g3, g4, g5⟩ := s53 (nat := nat) (d := d + 21) iKp (by omega) (by omega) (by omega) iS inS (by omega) (by omega)
    rw [show (0 + (X 0 3 - 1)) % ((2 : Nat) : Int) = X 0 3 - 1 by omega] at g3
    have F1 : ∀ z, ((z < 54 ∨ 64 ≤ z) ∧ (z < 12 ∨ 15 < z)) → rd w1 z = rd w z := fun z hz => g4 z (by omega) (by omega)
    have jP := isSh_fr (w' := w1) iP (fun z z1 z2 => F1 z (by omega))
    have c2 := s51 (nat := nat) (d := d + 23) jP
    have hk := (iKp.2.2.2 (X 0 3 - 1).toNat (by omega)).2
    have f0 : rd w1 0 = _ := (F1 0 (by omega)).trans i0
    have F : ∀ z, (((z < 54 ∨ 64 ≤ z) ∧ (z < 12 ∨ 15 < z)) ∧ z ≠ 20) → rd (wr w1 20 (oC 6 [.int (J 0), .int (J (X 0 2)), .ref (20 + 1)])) z = rd w z := fun z hz => (rd_wr_ne hz.2).trans (F1 z hz.1)
    have f1 : rd (wr w1 20 (oC 6 [.int (J 0), .int (J (X 0 2)), .ref (20 + 1)])) 0 = _ := (rd_wr_ne (by omega)).trans f0
    have jKp := isSh_fr (w' := wr w1 20 (oC 6 [.int (J 0), .int (J (X 0 2)), .ref (20 + 1)])) g2 (fun z z1 z2 => rd_wr_ne (by omega))
    refine ⟨_, ?_, ⟨(by rw [F 0 (by omega)]; exact i0), (by rw [F 1 (by omega)]; exact iT), (cR_fr iR (fun z z1 z2 => F z (by omega))), (isMe_fr iK (fun z z1 z2 => F z (by omega))), (cQ_fr iQ (fun z z1 z2 => F z (by omega))), (isSt_fr g3 (fun z z1 z2 => rd_wr_ne (by omega))), hk, (cTr_fr iTr (fun z z1 z2 => F z (by omega))), (isSh_head jP rd_wr_same (fun z hz => rd_wr_ne hz)), jKp, (cE_fr iE (fun z z1 z2 => F z (by omega))), (cH_fr iH (fun z z1 z2 => F z (by omega))), (cW_fr iW (fun z z1 z2 => F z (by omega))), (cD_fr iD (fun z z1 z2 => F z (by omega))), hpq⟩, fun z hz => F z (by omega), g5⟩
    simp (disch := first | omega | exact Nat.le_of_ble_eq_true rfl) only [e102_0, e102_1, e102_4, e102_7, e102_8, e102_11, e102_13, e102_14, e102_15, e102_18, e102_19, e102_22, e102_25, e102_26, e102_29, e102_32, e102_33, e102_36, e102_39, J_add, J_sub, J_mul, J_neg, J_lt, J_le, J_eq, gArr_J, gAst_J, gSiz_J, gFld_o, gUpd_o0, gUpd_o1, gUpd_o2, gUpd_o3, gUpd_o4, gUpd_o5, gUpd_o6, gUpd_o7, gUpd_o8, gUpd_o9, gUpd_o10, gUpd_o11, gUpd_o12, gUpd_o13, gUpd_o14, gUpd_o15, gUpd_o16, gUpd_o17, gUpd_o18, gIsO_o, Option.bind_some, List.getElem?_cons_zero, List.getElem?_cons_succ, List.length_cons, List.length_nil, List.set_cons_zero, List.set_cons_succ, gCat_nil, gCat_int, gCat_ref, if_pos, if_neg, Option.toList_some, Option.toList_none, List.cons_append, List.nil_append, B_nar, J1_nar, J0_nar, if_true, if_false, rd_wr_same, rd_wr_ne, true_and, and_true, B_0, B_1, not_true_eq_false, not_false_eq_true, i0, iKp.2.1, iS.2.1, g1, f0, f1, jP.2.1, c2, jKp.2.1]
