theorem nEnd_in {t : Int → Int} {p : Int} : p ≤ nEnd t p ∧ nEnd t p ≤ p + 2 := by
  unfold nEnd
  repeat' split
  all_goals omega
theorem nEnd_fig {t : Int → Int} {p : Int} : (nEnd t p = p) = ¬ fig (t p) := by
  unfold nEnd
  by_cases h : fig (t p)
  · simp only [if_pos h]
    split
    all_goals (simp only [h, not_true_eq_false, eq_iff_iff, iff_false]; omega)
  · simp [h]
theorem nVal_in {t : Int → Int} {p : Int} : 0 ≤ nVal t p ∧ nVal t p ≤ 99 := by
  unfold nVal fig
  repeat' split
  all_goals omega
theorem nums_in (t : Int → Int) : ∀ (k : Nat) (i p : Int) (N : Int → Int) (a q : Int) (R : Int → Int), nums t k i p N = some (a, q, R) → p < q ∧ i < a ∧ a ≤ i + k ∧ (∀ x, x < i → R x = N x) ∧ (∀ x, i ≤ x → x < a → 0 ≤ R x ∧ R x ≤ 99) ∧ t (q - 1) = 59 := by
  intro k
  induction k with
  | zero => intro i p N a q R h; exact absurd h (by simp [nums])
  | succ k ih =>
    intro i p N a q R h
    have b1 := nEnd_in (t := t) (p := p)
    have b2 := nVal_in (t := t) (p := p)
    rw [nums] at h
    by_cases h1 : fig (t p)
    · rw [if_pos h1] at h
      by_cases h2 : t (nEnd t p) = 59
      · rw [if_pos h2] at h
        simp only [Option.some.injEq, Prod.mk.injEq] at h
        obtain ⟨rfl, rfl, rfl⟩ := h
        refine ⟨by omega, by omega, by omega, fun x hx => fset_ne (by omega), fun x h3 h4 => ?_, by rw [Int.add_sub_cancel]; exact h2⟩
        have : x = i := by omega
        subst this
        rw [fset_at]
        exact b2
      · rw [if_neg h2] at h
        by_cases h3 : t (nEnd t p) = 44
        · rw [if_pos h3] at h
          obtain ⟨q1, q2, q3, q4, q5, q6⟩ := ih _ _ _ _ _ _ h
          refine ⟨by omega, by omega, by omega, fun x hx => ?_, fun x h3 h4 => ?_, q6⟩
          · rw [q4 x (by omega), fset_ne (by omega)]
          · by_cases e : x = i
            · subst e
              rw [q4 x (by omega), fset_at]
              exact b2
            · exact q5 x (by omega) h4
        · rw [if_neg h3] at h
          exact absurd h (by simp)
    · rw [if_neg h1] at h
      exact absurd h (by simp)
theorem ltr_ge {T : Int → Int} {L i : Int} (h : L ≤ i) : ltr T L i = 0 := by unfold ltr; rw [if_neg (by omega)]
theorem ltr_lt {T : Int → Int} {L i : Int} (h : i < L) : ltr T L i = T i := by unfold ltr; rw [if_pos h]
theorem numOut {st : Int} : True := trivial

theorem l27 {nat : gNat} {d : Nat} {w : gWd} {x t : Nat} {on : Int} {T : Int → Int} {L : Int} (hx : x + 1 < gSTR) (ht : t < gSTR) (htx : t < x ∨ x + 1 < t) (hT : rd w t = iC 200 (eI T)) (hT1 : ∀ i, 0 ≤ i → i < 200 → 0 ≤ T i ∧ T i < 128) (hL : 0 ≤ L ∧ L ≤ 200) {st : Int} (hst : 0 ≤ st ∧ st < 200) : ∀ (k : Nat) (i p am : Int) (N M : Int → Int) (z6 z7 z8 : Option Value), i + k = 5 → 0 ≤ i → (0 ≤ p ∧ p ≤ L + 1) → (∀ x, 0 ≤ x → x < i → N x = M x) → ∃ (am' : Int) (N' : Int → Int), gX (gC nat (d + 1)) nat 27 8 [some (.ref x), some (.ref t), some (.int (J L)), some (.int (J st)), some (.int (J p)), some (.int (J i)), z6, z7, z8] [] [] (putR w x am on N) = some (some (.int (J (match nums (ltr T L) k i p M with | none => st | some r => r.2.1))), putR w x am' on N') ∧ (∀ a q R, nums (ltr T L) k i p M = some (a, q, R) → am' = a ∧ ∀ y, 0 ≤ y → y < a → N' y = R y) := by
  have x1 : x < gSTR := by omega
  intro k
  induction k with
  | zero =>
    intro i p am N M z6 z7 z8 h0 hi hp hN
    refine ⟨am, N, ?_, fun a q R h => absurd h (by simp [nums])⟩
    rw [nums, e27_8]
    simp (disch := first | omega | exact Nat.le_of_ble_eq_true rfl) only [e27_0, e27_1, e27_2, e27_3, e27_5, e27_6, e27_10, e27_11, e27_14, e27_16, e27_18, e27_19, e27_23, e27_24, e27_27, e27_29, e27_31, e27_32, e27_33, e27_36, e27_37, e27_39, e27_42, e27_44, e27_46, e27_49, e27_52, e27_54, e27_56, e27_57, e27_58, e27_60, e27_63, e27_64, e27_66, e27_67, e27_69, e27_72, e27_77, e27_78, e27_81, e27_82, e27_84, e27_87, e27_90, e27_91, e27_93, e27_95, e27_97, e27_100, e27_102, e27_104, e27_107, e27_109, e27_111, e27_114, e27_115, e27_116, e27_117, e27_120, e27_122, e27_124, e27_127, e27_128, e27_130, e27_131, e27_132, e27_135, e27_138, e27_140, e27_142, e27_145, e27_147, e27_148, e27_151, e27_154, e27_155, J_add, J_sub, J_mul, J_neg, J_lt, J_le, J_eq, gArr_J, gAst_J, gSiz_J, gFld_o, gUpd_o0, gUpd_o1, gUpd_o2, gUpd_o3, gUpd_o4, gUpd_o5, gUpd_o6, gUpd_o7, gUpd_o8, gUpd_o9, gUpd_o10, gUpd_o11, gUpd_o12, gUpd_o13, gUpd_o14, gUpd_o15, gUpd_o16, gUpd_o17, gUpd_o18, gIsO_o, Option.bind_some, List.getElem?_cons_zero, List.getElem?_cons_succ, List.length_cons, List.length_nil, List.set_cons_zero, List.set_cons_succ, gCat_nil, gCat_int, gCat_ref, if_pos, if_neg, Option.toList_some, Option.toList_none, List.cons_append, List.nil_append, B_nar, J1_nar, J0_nar, if_true, if_false, rd_wr_same, rd_wr_ne, true_and, and_true, B_0, B_1, not_true_eq_false, not_false_eq_true]
  | succ k ih =>
    intro i p am N M z6 z7 z8 h0 hi hp hN
    have c0 := l27a (nat := nat) (d := d) (w := w) (on := on) hx ht htx hT hT1 hL (am := am) (N := N) (p := p) (by omega) (z3 := some (.int (J st))) (z5 := some (.int (J i))) (z8 := z8)
    have b1 := nEnd_in (t := ltr T L) (p := p)
    have b2 := nVal_in (t := ltr T L) (p := p)
    have f1 := nEnd_fig (t := ltr T L) (p := p)
    have cA : ∀ (i : Int), (0 ≤ i ∧ i < 200) → gC nat (d + 1) 117 [.ref t, .int (J i)] (putR w x am on N) = some (some (.int (J (T i))), putR w x am on N) := fun i h => s117 (by rw [rdRn htx]; exact hT) ht (by omega) (by omega)
    have cB : gC nat (d + 1) 118 [.ref (x + 1), .int (J i), .int (J (nVal (ltr T L) p))] (putR w x am on N) = some (none, putR w x am on (fset N i (nVal (ltr T L) p))) := by rw [s118 rdR1 hx (by omega) (by omega), wR1]
    have hhead : gX (gC nat (d + 1)) nat 27 8 [some (.ref x), some (.ref t), some (.int (J L)), some (.int (J st)), some (.int (J p)), some (.int (J i)), z6, z7, z8] [] [] (putR w x am on N) = gX (gC nat (d + 1)) nat 27 21 [some (.ref x), some (.ref t), some (.int (J L)), some (.int (J st)), some (.int (J p)), some (.int (J i)), some (.int (J p)), some (.int (J 0)), z8] [] [] (putR w x am on N) := by
      rw [e27_8]
      simp (disch := first | omega | exact Nat.le_of_ble_eq_true rfl) only [e27_0, e27_1, e27_2, e27_3, e27_5, e27_6, e27_10, e27_11, e27_14, e27_16, e27_18, e27_19, e27_23, e27_24, e27_27, e27_29, e27_31, e27_32, e27_33, e27_36, e27_37, e27_39, e27_42, e27_44, e27_46, e27_49, e27_52, e27_54, e27_56, e27_57, e27_58, e27_60, e27_63, e27_64, e27_66, e27_67, e27_69, e27_72, e27_77, e27_78, e27_81, e27_82, e27_84, e27_87, e27_90, e27_91, e27_93, e27_95, e27_97, e27_100, e27_102, e27_104, e27_107, e27_109, e27_111, e27_114, e27_115, e27_116, e27_117, e27_120, e27_122, e27_124, e27_127, e27_128, e27_130, e27_131, e27_132, e27_135, e27_138, e27_140, e27_142, e27_145, e27_147, e27_148, e27_151, e27_154, e27_155, J_add, J_sub, J_mul, J_neg, J_lt, J_le, J_eq, gArr_J, gAst_J, gSiz_J, gFld_o, gUpd_o0, gUpd_o1, gUpd_o2, gUpd_o3, gUpd_o4, gUpd_o5, gUpd_o6, gUpd_o7, gUpd_o8, gUpd_o9, gUpd_o10, gUpd_o11, gUpd_o12, gUpd_o13, gUpd_o14, gUpd_o15, gUpd_o16, gUpd_o17, gUpd_o18, gIsO_o, Option.bind_some, List.getElem?_cons_zero, List.getElem?_cons_succ, List.length_cons, List.length_nil, List.set_cons_zero, List.set_cons_succ, gCat_nil, gCat_int, gCat_ref, if_pos, if_neg, Option.toList_some, Option.toList_none, List.cons_append, List.nil_append, B_nar, J1_nar, J0_nar, if_true, if_false, rd_wr_same, rd_wr_ne, true_and, and_true, B_0, B_1, not_true_eq_false, not_false_eq_true]
    rw [hhead, c0]
    rw [nums]
    generalize nEnd (ltr T L) p = e at *
    generalize nVal (ltr T L) p = v at *
    have hfail : (¬ fig (ltr T L p) ∨ (ltr T L e ≠ 59 ∧ ltr T L e ≠ 44)) → gX (gC nat (d + 1)) nat 27 75 [some (.ref x), some (.ref t), some (.int (J L)), some (.int (J st)), some (.int (J e)), some (.int (J i)), some (.int (J p)), some (.int (J v)), z8] [] [] (putR w x am on N) = some (some (.int (J st)), putR w x am on N) := by
      intro hf
      rw [e27_75]
      by_cases h1 : e < L
      · have hb := hT1 e (by omega) (by omega)
        rw [ltr_lt h1] at hf
        by_cases h2 : fig (ltr T L p)
        · have hf2 := hf.resolve_left (fun q => q h2)
          have he : ¬ e = p := fun q => absurd h2 (f1 ▸ q)
          simp (disch := first | omega | exact Nat.le_of_ble_eq_true rfl) only [e27_0, e27_1, e27_2, e27_3, e27_5, e27_6, e27_10, e27_11, e27_14, e27_16, e27_18, e27_19, e27_23, e27_24, e27_27, e27_29, e27_31, e27_32, e27_33, e27_36, e27_37, e27_39, e27_42, e27_44, e27_46, e27_49, e27_52, e27_54, e27_56, e27_57, e27_58, e27_60, e27_63, e27_64, e27_66, e27_67, e27_69, e27_72, e27_77, e27_78, e27_81, e27_82, e27_84, e27_87, e27_90, e27_91, e27_93, e27_95, e27_97, e27_100, e27_102, e27_104, e27_107, e27_109, e27_111, e27_114, e27_115, e27_116, e27_117, e27_120, e27_122, e27_124, e27_127, e27_128, e27_130, e27_131, e27_132, e27_135, e27_138, e27_140, e27_142, e27_145, e27_147, e27_148, e27_151, e27_154, e27_155, J_add, J_sub, J_mul, J_neg, J_lt, J_le, J_eq, gArr_J, gAst_J, gSiz_J, gFld_o, gUpd_o0, gUpd_o1, gUpd_o2, gUpd_o3, gUpd_o4, gUpd_o5, gUpd_o6, gUpd_o7, gUpd_o8, gUpd_o9, gUpd_o10, gUpd_o11, gUpd_o12, gUpd_o13, gUpd_o14, gUpd_o15, gUpd_o16, gUpd_o17, gUpd_o18, gIsO_o, Option.bind_some, List.getElem?_cons_zero, List.getElem?_cons_succ, List.length_cons, List.length_nil, List.set_cons_zero, List.set_cons_succ, gCat_nil, gCat_int, gCat_ref, if_pos, if_neg, Option.toList_some, Option.toList_none, List.cons_append, List.nil_append, B_nar, J1_nar, J0_nar, if_true, if_false, rd_wr_same, rd_wr_ne, true_and, and_true, B_0, B_1, not_true_eq_false, not_false_eq_true, cA]
        · have he : e = p := by rw [f1]; exact h2
          subst he
          simp (disch := first | omega | exact Nat.le_of_ble_eq_true rfl) only [e27_0, e27_1, e27_2, e27_3, e27_5, e27_6, e27_10, e27_11, e27_14, e27_16, e27_18, e27_19, e27_23, e27_24, e27_27, e27_29, e27_31, e27_32, e27_33, e27_36, e27_37, e27_39, e27_42, e27_44, e27_46, e27_49, e27_52, e27_54, e27_56, e27_57, e27_58, e27_60, e27_63, e27_64, e27_66, e27_67, e27_69, e27_72, e27_77, e27_78, e27_81, e27_82, e27_84, e27_87, e27_90, e27_91, e27_93, e27_95, e27_97, e27_100, e27_102, e27_104, e27_107, e27_109, e27_111, e27_114, e27_115, e27_116, e27_117, e27_120, e27_122, e27_124, e27_127, e27_128, e27_130, e27_131, e27_132, e27_135, e27_138, e27_140, e27_142, e27_145, e27_147, e27_148, e27_151, e27_154, e27_155, J_add, J_sub, J_mul, J_neg, J_lt, J_le, J_eq, gArr_J, gAst_J, gSiz_J, gFld_o, gUpd_o0, gUpd_o1, gUpd_o2, gUpd_o3, gUpd_o4, gUpd_o5, gUpd_o6, gUpd_o7, gUpd_o8, gUpd_o9, gUpd_o10, gUpd_o11, gUpd_o12, gUpd_o13, gUpd_o14, gUpd_o15, gUpd_o16, gUpd_o17, gUpd_o18, gIsO_o, Option.bind_some, List.getElem?_cons_zero, List.getElem?_cons_succ, List.length_cons, List.length_nil, List.set_cons_zero, List.set_cons_succ, gCat_nil, gCat_int, gCat_ref, if_pos, if_neg, Option.toList_some, Option.toList_none, List.cons_append, List.nil_append, B_nar, J1_nar, J0_nar, if_true, if_false, rd_wr_same, rd_wr_ne, true_and, and_true, B_0, B_1, not_true_eq_false, not_false_eq_true, cA]
      · rw [ltr_ge (i := e) (by omega)] at hf
        by_cases h2 : e = p
        · subst h2
          simp (disch := first | omega | exact Nat.le_of_ble_eq_true rfl) only [e27_0, e27_1, e27_2, e27_3, e27_5, e27_6, e27_10, e27_11, e27_14, e27_16, e27_18, e27_19, e27_23, e27_24, e27_27, e27_29, e27_31, e27_32, e27_33, e27_36, e27_37, e27_39, e27_42, e27_44, e27_46, e27_49, e27_52, e27_54, e27_56, e27_57, e27_58, e27_60, e27_63, e27_64, e27_66, e27_67, e27_69, e27_72, e27_77, e27_78, e27_81, e27_82, e27_84, e27_87, e27_90, e27_91, e27_93, e27_95, e27_97, e27_100, e27_102, e27_104, e27_107, e27_109, e27_111, e27_114, e27_115, e27_116, e27_117, e27_120, e27_122, e27_124, e27_127, e27_128, e27_130, e27_131, e27_132, e27_135, e27_138, e27_140, e27_142, e27_145, e27_147, e27_148, e27_151, e27_154, e27_155, J_add, J_sub, J_mul, J_neg, J_lt, J_le, J_eq, gArr_J, gAst_J, gSiz_J, gFld_o, gUpd_o0, gUpd_o1, gUpd_o2, gUpd_o3, gUpd_o4, gUpd_o5, gUpd_o6, gUpd_o7, gUpd_o8, gUpd_o9, gUpd_o10, gUpd_o11, gUpd_o12, gUpd_o13, gUpd_o14, gUpd_o15, gUpd_o16, gUpd_o17, gUpd_o18, gIsO_o, Option.bind_some, List.getElem?_cons_zero, List.getElem?_cons_succ, List.length_cons, List.length_nil, List.set_cons_zero, List.set_cons_succ, gCat_nil, gCat_int, gCat_ref, if_pos, if_neg, Option.toList_some, Option.toList_none, List.cons_append, List.nil_append, B_nar, J1_nar, J0_nar, if_true, if_false, rd_wr_same, rd_wr_ne, true_and, and_true, B_0, B_1, not_true_eq_false, not_false_eq_true]
        ·
          simp (disch := first | omega | exact Nat.le_of_ble_eq_true rfl) only [e27_0, e27_1, e27_2, e27_3, e27_5, e27_6, e27_10, e27_11, e27_14, e27_16, e27_18, e27_19, e27_23, e27_24, e27_27, e27_29, e27_31, e27_32, e27_33, e27_36, e27_37, e27_39, e27_42, e27_44, e27_46, e27_49, e27_52, e27_54, e27_56, e27_57, e27_58, e27_60, e27_63, e27_64, e27_66, e27_67, e27_69, e27_72, e27_77, e27_78, e27_81, e27_82, e27_84, e27_87, e27_90, e27_91, e27_93, e27_95, e27_97, e27_100, e27_102, e27_104, e27_107, e27_109, e27_111, e27_114, e27_115, e27_116, e27_117, e27_120, e27_122, e27_124, e27_127, e27_128, e27_130, e27_131, e27_132, e27_135, e27_138, e27_140, e27_142, e27_145, e27_147, e27_148, e27_151, e27_154, e27_155, J_add, J_sub, J_mul, J_neg, J_lt, J_le, J_eq, gArr_J, gAst_J, gSiz_J, gFld_o, gUpd_o0, gUpd_o1, gUpd_o2, gUpd_o3, gUpd_o4, gUpd_o5, gUpd_o6, gUpd_o7, gUpd_o8, gUpd_o9, gUpd_o10, gUpd_o11, gUpd_o12, gUpd_o13, gUpd_o14, gUpd_o15, gUpd_o16, gUpd_o17, gUpd_o18, gIsO_o, Option.bind_some, List.getElem?_cons_zero, List.getElem?_cons_succ, List.length_cons, List.length_nil, List.set_cons_zero, List.set_cons_succ, gCat_nil, gCat_int, gCat_ref, if_pos, if_neg, Option.toList_some, Option.toList_none, List.cons_append, List.nil_append, B_nar, J1_nar, J0_nar, if_true, if_false, rd_wr_same, rd_wr_ne, true_and, and_true, B_0, B_1, not_true_eq_false, not_false_eq_true]
    by_cases h1 : fig (ltr T L p)
    · have he : ¬ e = p := fun q => absurd h1 (f1 ▸ q)
      rw [if_pos h1]
      by_cases h2 : ltr T L e = 59
      · have hlt : e < L := by
          by_cases q : e < L
          · exact q
          · rw [ltr_ge (by omega)] at h2
            omega
        rw [if_pos h2]
        rw [ltr_lt hlt] at h2
        refine ⟨i + 1, fset N i v, ?_, fun a q R h => ?_⟩
        · rw [e27_75]
          have cA' := cA e (by omega)
          rw [h2] at cA'
          simp (disch := first | omega | exact Nat.le_of_ble_eq_true rfl) only [e27_0, e27_1, e27_2, e27_3, e27_5, e27_6, e27_10, e27_11, e27_14, e27_16, e27_18, e27_19, e27_23, e27_24, e27_27, e27_29, e27_31, e27_32, e27_33, e27_36, e27_37, e27_39, e27_42, e27_44, e27_46, e27_49, e27_52, e27_54, e27_56, e27_57, e27_58, e27_60, e27_63, e27_64, e27_66, e27_67, e27_69, e27_72, e27_77, e27_78, e27_81, e27_82, e27_84, e27_87, e27_90, e27_91, e27_93, e27_95, e27_97, e27_100, e27_102, e27_104, e27_107, e27_109, e27_111, e27_114, e27_115, e27_116, e27_117, e27_120, e27_122, e27_124, e27_127, e27_128, e27_130, e27_131, e27_132, e27_135, e27_138, e27_140, e27_142, e27_145, e27_147, e27_148, e27_151, e27_154, e27_155, J_add, J_sub, J_mul, J_neg, J_lt, J_le, J_eq, gArr_J, gAst_J, gSiz_J, gFld_o, gUpd_o0, gUpd_o1, gUpd_o2, gUpd_o3, gUpd_o4, gUpd_o5, gUpd_o6, gUpd_o7, gUpd_o8, gUpd_o9, gUpd_o10, gUpd_o11, gUpd_o12, gUpd_o13, gUpd_o14, gUpd_o15, gUpd_o16, gUpd_o17, gUpd_o18, gIsO_o, Option.bind_some, List.getElem?_cons_zero, List.getElem?_cons_succ, List.length_cons, List.length_nil, List.set_cons_zero, List.set_cons_succ, gCat_nil, gCat_int, gCat_ref, if_pos, if_neg, Option.toList_some, Option.toList_none, List.cons_append, List.nil_append, B_nar, J1_nar, J0_nar, if_true, if_false, rd_wr_same, rd_wr_ne, true_and, and_true, B_0, B_1, not_true_eq_false, not_false_eq_true, rdR0, rdR1, wR0, wR1, cA', cB]
        · simp only [Option.some.injEq, Prod.mk.injEq] at h
          obtain ⟨rfl, rfl, rfl⟩ := h
          refine ⟨rfl, fun y h3 h4 => ?_⟩
          by_cases q : y = i
          · subst q; rw [fset_at, fset_at]
          · rw [fset_ne q, fset_ne q]; exact hN y h3 (by omega)
      · rw [if_neg h2]
        by_cases h3 : ltr T L e = 44
        · have hlt : e < L := by
            by_cases q : e < L
            · exact q
            · rw [ltr_ge (by omega)] at h3
              omega
          rw [if_pos h3]
          rw [ltr_lt hlt] at h3
          obtain ⟨am', N', g1, g2⟩ := ih (i + 1) (e + 1) (i + 1) (fset N i v) (fset M i v) (some (.int (J p))) (some (.int (J v))) (some (.int (J 44))) (by omega) (by omega) (by omega) (fun y h4 h5 => by
            by_cases q : y = i
            · subst q; rw [fset_at, fset_at]
            · rw [fset_ne q, fset_ne q]; exact hN y h4 (by omega))
          refine ⟨am', N', ?_, g2⟩
          rw [← g1, e27_75]
          have cA' := cA e (by omega)
          rw [h3] at cA'
          simp (disch := first | omega | exact Nat.le_of_ble_eq_true rfl) only [e27_0, e27_1, e27_2, e27_3, e27_5, e27_6, e27_10, e27_11, e27_14, e27_16, e27_18, e27_19, e27_23, e27_24, e27_27, e27_29, e27_31, e27_32, e27_33, e27_36, e27_37, e27_39, e27_42, e27_44, e27_46, e27_49, e27_52, e27_54, e27_56, e27_57, e27_58, e27_60, e27_63, e27_64, e27_66, e27_67, e27_69, e27_72, e27_77, e27_78, e27_81, e27_82, e27_84, e27_87, e27_90, e27_91, e27_93, e27_95, e27_97, e27_100, e27_102, e27_104, e27_107, e27_109, e27_111, e27_114, e27_115, e27_116, e27_117, e27_120, e27_122, e27_124, e27_127, e27_128, e27_130, e27_131, e27_132, e27_135, e27_138, e27_140, e27_142, e27_145, e27_147, e27_148, e27_151, e27_154, e27_155, J_add, J_sub, J_mul, J_neg, J_lt, J_le, J_eq, gArr_J, gAst_J, gSiz_J, gFld_o, gUpd_o0, gUpd_o1, gUpd_o2, gUpd_o3, gUpd_o4, gUpd_o5, gUpd_o6, gUpd_o7, gUpd_o8, gUpd_o9, gUpd_o10, gUpd_o11, gUpd_o12, gUpd_o13, gUpd_o14, gUpd_o15, gUpd_o16, gUpd_o17, gUpd_o18, gIsO_o, Option.bind_some, List.getElem?_cons_zero, List.getElem?_cons_succ, List.length_cons, List.length_nil, List.set_cons_zero, List.set_cons_succ, gCat_nil, gCat_int, gCat_ref, if_pos, if_neg, Option.toList_some, Option.toList_none, List.cons_append, List.nil_append, B_nar, J1_nar, J0_nar, if_true, if_false, rd_wr_same, rd_wr_ne, true_and, and_true, B_0, B_1, not_true_eq_false, not_false_eq_true, rdR0, rdR1, wR0, wR1, cA', cB]
        · rw [if_neg h3]
          exact ⟨am, N, hfail (Or.inr ⟨h2, h3⟩), fun a q R h => absurd h (by simp)⟩
    · rw [if_neg h1]
      exact ⟨am, N, hfail (Or.inl h1), fun a q R h => absurd h (by simp)⟩

theorem s27 {nat : gNat} {d : Nat} {w : gWd} {x t : Nat} {on : Int} {T : Int → Int} {L : Int} (hx : x + 1 < gSTR) (ht : t < gSTR) (htx : t < x ∨ x + 1 < t) (hT : rd w t = iC 200 (eI T)) (hT1 : ∀ i, 0 ≤ i → i < 200 → 0 ≤ T i ∧ T i < 128) (hL : 0 ≤ L ∧ L ≤ 200) {p am : Int} (hp : 0 ≤ p ∧ p < L) {N : Int → Int} : ∃ (am' : Int) (N' : Int → Int), gC nat (d + 2) 27 [.ref x, .ref t, .int (J L), .int (J p)] (putR w x am on N) = some (some (.int (J (match nums (ltr T L) 5 0 (p + 1) (fun _ => 0) with | none => p | some r => r.2.1))), putR w x am' on N') ∧ (∀ a q R, nums (ltr T L) 5 0 (p + 1) (fun _ => 0) = some (a, q, R) → am' = a ∧ ∀ y, 0 ≤ y → y < a → N' y = R y) := by
  obtain ⟨am', N', g1, g2⟩ := l27 (nat := nat) (d := d) (w := w) (on := on) hx ht htx hT hT1 hL (st := p) (by omega) 5 0 (p + 1) am N (fun _ => 0) none none none (by omega) (by omega) (by omega) (fun y h1 h2 => absurd h2 (by omega))
  refine ⟨am', N', ?_, g2⟩
  rw [← g1, en27]
  simp (disch := first | omega | exact Nat.le_of_ble_eq_true rfl) only [e27_0, e27_1, e27_2, e27_3, e27_5, e27_6, e27_10, e27_11, e27_14, e27_16, e27_18, e27_19, e27_23, e27_24, e27_27, e27_29, e27_31, e27_32, e27_33, e27_36, e27_37, e27_39, e27_42, e27_44, e27_46, e27_49, e27_52, e27_54, e27_56, e27_57, e27_58, e27_60, e27_63, e27_64, e27_66, e27_67, e27_69, e27_72, e27_77, e27_78, e27_81, e27_82, e27_84, e27_87, e27_90, e27_91, e27_93, e27_95, e27_97, e27_100, e27_102, e27_104, e27_107, e27_109, e27_111, e27_114, e27_115, e27_116, e27_117, e27_120, e27_122, e27_124, e27_127, e27_128, e27_130, e27_131, e27_132, e27_135, e27_138, e27_140, e27_142, e27_145, e27_147, e27_148, e27_151, e27_154, e27_155, J_add, J_sub, J_mul, J_neg, J_lt, J_le, J_eq, gArr_J, gAst_J, gSiz_J, gFld_o, gUpd_o0, gUpd_o1, gUpd_o2, gUpd_o3, gUpd_o4, gUpd_o5, gUpd_o6, gUpd_o7, gUpd_o8, gUpd_o9, gUpd_o10, gUpd_o11, gUpd_o12, gUpd_o13, gUpd_o14, gUpd_o15, gUpd_o16, gUpd_o17, gUpd_o18, gIsO_o, Option.bind_some, List.getElem?_cons_zero, List.getElem?_cons_succ, List.length_cons, List.length_nil, List.set_cons_zero, List.set_cons_succ, gCat_nil, gCat_int, gCat_ref, if_pos, if_neg, Option.toList_some, Option.toList_none, List.cons_append, List.nil_append, B_nar, J1_nar, J0_nar, if_true, if_false, rd_wr_same, rd_wr_ne, true_and, and_true, B_0, B_1, not_true_eq_false, not_false_eq_true]
