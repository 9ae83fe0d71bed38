theorem rset_5 {M : Lay} {r : Nat} {f : Int → Int} (hr : r = 6 ∨ r = 7) {i : Int} : rset M (r : Int) f 5 i = M 5 i := by rw [mn5 hr]
def fln (K S : Lay) (n : Nat) : Lay := if S 0 0 % 24 < K 0 3 then flies K S n else S
theorem vS_fln {K S : Lay} (hK : vK K) (hS : vS K S) {n : Nat} (hn : (n : Int) ≤ K 0 2) : vS K (fln K S n) := by
  unfold fln
  split
  · exact vS_flies hK hS n hn
  · exact hS
theorem fln_h {K S : Lay} {n : Nat} : (fln K S n) 0 0 = S 0 0 := by
  unfold fln
  split
  · rw [flies_h]
  · rfl
def unpJ (K S : Lay) (n : Nat) : Lay := fun a i => if a = 1 ∧ 0 ≤ i ∧ i < (n : Int) ∧ S 1 i < K 1 (5 * i + 4) then (if S 1 i - (if K 1 (5 * i) = 2 then 2 else 1) < 0 then 0 else S 1 i - (if K 1 (5 * i) = 2 then 2 else 1)) else S a i
theorem unpJ_z {K S : Lay} : unpJ K S 0 = S := by
  funext a i
  unfold unpJ
  rw [if_neg (by omega)]
theorem unpJ_n {K S : Lay} {n : Nat} (h : (n : Int) = K 0 1) : unpJ K S n = unp K S := by
  funext a i
  unfold unpJ unp
  rw [h]
theorem unpJ_at {K S : Lay} {n : Nat} : (unpJ K S n) 1 n = S 1 n := by
  unfold unpJ
  rw [if_neg (by omega)]
theorem unpJ_s {K S : Lay} {n : Nat} : sset (unpJ K S n) 1 n ((unpJ K S (n + 1)) 1 n) = unpJ K S (n + 1) := by
  funext a i
  unfold sset
  by_cases h : a = 1 ∧ i = n
  · rw [if_pos h, h.1, h.2]
  · rw [if_neg h]
    unfold unpJ
    by_cases q : a = 1 ∧ 0 ≤ i ∧ i < (n : Int) ∧ S 1 i < K 1 (5 * i + 4)
    · rw [if_pos q, if_pos (show a = 1 ∧ 0 ≤ i ∧ i < ((n + 1 : Nat) : Int) ∧ S 1 i < K 1 (5 * i + 4) from by omega)]
    · rw [if_neg q, if_neg (show ¬ (a = 1 ∧ 0 ≤ i ∧ i < ((n + 1 : Nat) : Int) ∧ S 1 i < K 1 (5 * i + 4)) from by omega)]
theorem l148a {nat : gNat} {d : Nat} {w : gWd} {x : Nat} {M K : Lay} (hx : x + 12 < gSTR) (hL : mLaw K (M 5)) (hK : vK K) {r : Nat} (hr : r = 6 ∨ r = 7) {S : Lay} (hS : vS K S) (hh : S 0 0 < 2000000000) {z2 z4 : Option Value} {N : Nat} (hN : (N : Int) = K 0 2) : ∀ (k n : Nat) (f : Int → Int), n + k = N → mRow K (fln K S n) f → ∃ f', mRow K (fln K S N) f' ∧ gX (gC nat (d + 3)) nat 148 2 [some (.ref x), some (.ref (x + r)), z2, some (.int (J n)), z4] [] [] (putM w x (rset M r f)) = gX (gC nat (d + 3)) nat 148 45 [some (.ref x), some (.ref (x + r)), z2, some (.int (J N)), z4] [] [] (putM w x (rset M r f')) := by
  obtain ⟨k0, k1, k2, k3, k4, kg, kd, kr⟩ := id hK
  obtain ⟨f0, f1, f2, f3, f4, fr, fg, fd⟩ := id hL
  have hs0 := hS.1
  intro k
  induction k with
  | zero =>
    intro n f hn hf
    rw [Nat.add_zero] at hn
    subst hn
    refine ⟨f, hf, ?_⟩
    have e2 : (rset M r f) 5 2 = K 0 2 := by rw [rset_5 hr]; exact f2
    rw [e148_2]
    simp (disch := first | omega | exact Nat.le_of_ble_eq_true rfl) only [e148_0, e148_1, e148_3, e148_4, e148_7, e148_8, e148_9, e148_12, e148_13, e148_15, e148_16, e148_17, e148_18, e148_20, e148_23, e148_24, e148_25, e148_26, e148_27, e148_30, e148_33, e148_34, e148_35, e148_36, e148_39, e148_42, e148_46, e148_48, e148_49, e148_52, e148_53, e148_54, e148_57, e148_58, e148_61, e148_62, e148_63, e148_64, e148_67, e148_70, e148_71, e148_74, e148_75, e148_76, e148_77, e148_80, e148_81, e148_84, e148_85, e148_88, e148_89, e148_91, e148_92, e148_93, e148_94, e148_95, e148_96, e148_97, e148_98, e148_99, e148_100, e148_102, e148_105, e148_106, e148_107, e148_108, e148_109, e148_110, e148_112, e148_113, e148_116, e148_117, e148_118, e148_119, e148_122, e148_125, e148_126, e148_127, e148_128, e148_129, e148_130, e148_133, e148_134, e148_135, e148_138, e148_141, e148_142, e148_143, e148_144, e148_145, e148_146, e148_147, e148_148, J_add, J_sub, J_mul, J_neg, J_lt, J_le, J_eq, gArr_J, gAst_J, gSiz_J, gFld_o, gUpd_o0, gUpd_o1, gUpd_o2, gUpd_o3, gUpd_o4, gUpd_o5, gUpd_o6, gUpd_o7, gUpd_o8, gUpd_o9, gUpd_o10, gUpd_o11, gUpd_o12, gUpd_o13, gUpd_o14, gUpd_o15, gUpd_o16, gUpd_o17, gUpd_o18, gIsO_o, Option.bind_some, List.getElem?_cons_zero, List.getElem?_cons_succ, List.length_cons, List.length_nil, List.set_cons_zero, List.set_cons_succ, gCat_nil, gCat_int, gCat_ref, if_pos, if_neg, Option.toList_some, Option.toList_none, List.cons_append, List.nil_append, B_nar, J1_nar, J0_nar, if_true, if_false, rd_wr_same, rd_wr_ne, true_and, and_true, B_0, B_1, not_true_eq_false, not_false_eq_true, rdM0, rdM1, rdM2, rdM3, rdM4, rdM5, rdM6, rdM7, rdM8, rdM9, rdM10, rdM11, rdM12, wM1, wM2, wM3, wM4, wM5, wM6, wM7, wM8, wM9, wM10, wM11, wM12, wM0_0, wM0_1, wM0_2, wM0_3, wM0_4, wM0_5, wM0_6, e2]
  | succ k ih =>
    intro n f hn hf
    have e5 := mn5 (M := M) (f := f) hr
    have e2 : (rset M r f) 5 2 = K 0 2 := by rw [rset_5 hr]; exact f2
    have hq := rdMr (w := w) (x := x) (M := rset M r f) hr
    rw [rset_at] at hq
    have vT := vS_fln hK hS (n := n) (by omega)
    have p1 := (hf.2.2 n (by omega) (by omega)).2
    have p0 := hf.1
    rw [fln_h] at p0
    have hb := vT.2.2.1 n (by omega) (by omega)
    have c1 := s144 (nat := nat) (d := d + 2) (w := w) (M := rset M r f) hx (by rw [e5]; exact hL) hK (h := S 0 0) (by omega)
    have step : ∀ f1, mRow K (fln K S (n + 1)) f1 → gX (gC nat (d + 3)) nat 148 2 [some (.ref x), some (.ref (x + r)), z2, some (.int (J n)), z4] [] [] (putM w x (rset M r f)) = gX (gC nat (d + 3)) nat 148 2 [some (.ref x), some (.ref (x + r)), z2, some (.int (J (n + 1 : Nat))), z4] [] [] (putM w x (rset M r f1)) → ∃ f', mRow K (fln K S N) f' ∧ gX (gC nat (d + 3)) nat 148 2 [some (.ref x), some (.ref (x + r)), z2, some (.int (J n)), z4] [] [] (putM w x (rset M r f)) = gX (gC nat (d + 3)) nat 148 45 [some (.ref x), some (.ref (x + r)), z2, some (.int (J N)), z4] [] [] (putM w x (rset M r f')) := fun f1 h1 h2 => by
      obtain ⟨f', g1, g2⟩ := ih (n + 1) f1 (by omega) h1
      exact ⟨f', g1, h2.trans g2⟩
    by_cases hg : (fln K S n) 2 n = -4
    · refine step f ?_ ?_
      · have e : fln K S (n + 1) = fln K S n := by
          unfold fln at hg ⊢
          by_cases hl : S 0 0 % 24 < K 0 3
          · rw [if_pos hl] at hg
            rw [if_pos hl, if_pos hl, flies]
            unfold fly
            rw [if_pos hg]
          · rw [if_neg hl, if_neg hl]
        rw [e]
        exact hf
      · rw [hg] at p1
        rw [e148_2, show ((n + 1 : Nat) : Int) = (n : Int) + 1 from rfl]
        simp (disch := first | omega | exact Nat.le_of_ble_eq_true rfl) only [e148_0, e148_1, e148_3, e148_4, e148_7, e148_8, e148_9, e148_12, e148_13, e148_15, e148_16, e148_17, e148_18, e148_20, e148_23, e148_24, e148_25, e148_26, e148_27, e148_30, e148_33, e148_34, e148_35, e148_36, e148_39, e148_42, e148_46, e148_48, e148_49, e148_52, e148_53, e148_54, e148_57, e148_58, e148_61, e148_62, e148_63, e148_64, e148_67, e148_70, e148_71, e148_74, e148_75, e148_76, e148_77, e148_80, e148_81, e148_84, e148_85, e148_88, e148_89, e148_91, e148_92, e148_93, e148_94, e148_95, e148_96, e148_97, e148_98, e148_99, e148_100, e148_102, e148_105, e148_106, e148_107, e148_108, e148_109, e148_110, e148_112, e148_113, e148_116, e148_117, e148_118, e148_119, e148_122, e148_125, e148_126, e148_127, e148_128, e148_129, e148_130, e148_133, e148_134, e148_135, e148_138, e148_141, e148_142, e148_143, e148_144, e148_145, e148_146, e148_147, e148_148, J_add, J_sub, J_mul, J_neg, J_lt, J_le, J_eq, gArr_J, gAst_J, gSiz_J, gFld_o, gUpd_o0, gUpd_o1, gUpd_o2, gUpd_o3, gUpd_o4, gUpd_o5, gUpd_o6, gUpd_o7, gUpd_o8, gUpd_o9, gUpd_o10, gUpd_o11, gUpd_o12, gUpd_o13, gUpd_o14, gUpd_o15, gUpd_o16, gUpd_o17, gUpd_o18, gIsO_o, Option.bind_some, List.getElem?_cons_zero, List.getElem?_cons_succ, List.length_cons, List.length_nil, List.set_cons_zero, List.set_cons_succ, gCat_nil, gCat_int, gCat_ref, if_pos, if_neg, Option.toList_some, Option.toList_none, List.cons_append, List.nil_append, B_nar, J1_nar, J0_nar, if_true, if_false, rd_wr_same, rd_wr_ne, true_and, and_true, B_0, B_1, not_true_eq_false, not_false_eq_true, rdM0, rdM1, rdM2, rdM3, rdM4, rdM5, rdM6, rdM7, rdM8, rdM9, rdM10, rdM11, rdM12, wM1, wM2, wM3, wM4, wM5, wM6, wM7, wM8, wM9, wM10, wM11, wM12, wM0_0, wM0_1, wM0_2, wM0_3, wM0_4, wM0_5, wM0_6, e2, hq, p1]
    · by_cases hl : S 0 0 % 24 < K 0 3
      · obtain ⟨f1, g1, g2⟩ := s147 (nat := nat) (d := d) (w := w) (M := rset M r f) hx (by rw [e5]; exact hL) hK hr (S := fln K S n) (by rw [rset_at]; exact hf) vT (y := n) (by omega) hg
        rw [rset_rset] at g1
        refine step f1 ?_ ?_
        · have e : fln K S (n + 1) = fly K (fln K S n) n := by
            unfold fln
            rw [if_pos hl, if_pos hl, flies]
          rw [e]
          exact g2
        · rw [B_pos hl] at c1
          rw [e148_2, show ((n + 1 : Nat) : Int) = (n : Int) + 1 from rfl]
          simp (disch := first | omega | exact Nat.le_of_ble_eq_true rfl) only [e148_0, e148_1, e148_3, e148_4, e148_7, e148_8, e148_9, e148_12, e148_13, e148_15, e148_16, e148_17, e148_18, e148_20, e148_23, e148_24, e148_25, e148_26, e148_27, e148_30, e148_33, e148_34, e148_35, e148_36, e148_39, e148_42, e148_46, e148_48, e148_49, e148_52, e148_53, e148_54, e148_57, e148_58, e148_61, e148_62, e148_63, e148_64, e148_67, e148_70, e148_71, e148_74, e148_75, e148_76, e148_77, e148_80, e148_81, e148_84, e148_85, e148_88, e148_89, e148_91, e148_92, e148_93, e148_94, e148_95, e148_96, e148_97, e148_98, e148_99, e148_100, e148_102, e148_105, e148_106, e148_107, e148_108, e148_109, e148_110, e148_112, e148_113, e148_116, e148_117, e148_118, e148_119, e148_122, e148_125, e148_126, e148_127, e148_128, e148_129, e148_130, e148_133, e148_134, e148_135, e148_138, e148_141, e148_142, e148_143, e148_144, e148_145, e148_146, e148_147, e148_148, J_add, J_sub, J_mul, J_neg, J_lt, J_le, J_eq, gArr_J, gAst_J, gSiz_J, gFld_o, gUpd_o0, gUpd_o1, gUpd_o2, gUpd_o3, gUpd_o4, gUpd_o5, gUpd_o6, gUpd_o7, gUpd_o8, gUpd_o9, gUpd_o10, gUpd_o11, gUpd_o12, gUpd_o13, gUpd_o14, gUpd_o15, gUpd_o16, gUpd_o17, gUpd_o18, gIsO_o, Option.bind_some, List.getElem?_cons_zero, List.getElem?_cons_succ, List.length_cons, List.length_nil, List.set_cons_zero, List.set_cons_succ, gCat_nil, gCat_int, gCat_ref, if_pos, if_neg, Option.toList_some, Option.toList_none, List.cons_append, List.nil_append, B_nar, J1_nar, J0_nar, if_true, if_false, rd_wr_same, rd_wr_ne, true_and, and_true, B_0, B_1, not_true_eq_false, not_false_eq_true, rdM0, rdM1, rdM2, rdM3, rdM4, rdM5, rdM6, rdM7, rdM8, rdM9, rdM10, rdM11, rdM12, wM1, wM2, wM3, wM4, wM5, wM6, wM7, wM8, wM9, wM10, wM11, wM12, wM0_0, wM0_1, wM0_2, wM0_3, wM0_4, wM0_5, wM0_6, e2, hq, p0, p1, c1, g1]
      · refine step f ?_ ?_
        · have e : fln K S (n + 1) = fln K S n := by
            unfold fln
            rw [if_neg hl, if_neg hl]
          rw [e]
          exact hf
        · rw [B_neg hl] at c1
          rw [e148_2, show ((n + 1 : Nat) : Int) = (n : Int) + 1 from rfl]
          simp (disch := first | omega | exact Nat.le_of_ble_eq_true rfl) only [e148_0, e148_1, e148_3, e148_4, e148_7, e148_8, e148_9, e148_12, e148_13, e148_15, e148_16, e148_17, e148_18, e148_20, e148_23, e148_24, e148_25, e148_26, e148_27, e148_30, e148_33, e148_34, e148_35, e148_36, e148_39, e148_42, e148_46, e148_48, e148_49, e148_52, e148_53, e148_54, e148_57, e148_58, e148_61, e148_62, e148_63, e148_64, e148_67, e148_70, e148_71, e148_74, e148_75, e148_76, e148_77, e148_80, e148_81, e148_84, e148_85, e148_88, e148_89, e148_91, e148_92, e148_93, e148_94, e148_95, e148_96, e148_97, e148_98, e148_99, e148_100, e148_102, e148_105, e148_106, e148_107, e148_108, e148_109, e148_110, e148_112, e148_113, e148_116, e148_117, e148_118, e148_119, e148_122, e148_125, e148_126, e148_127, e148_128, e148_129, e148_130, e148_133, e148_134, e148_135, e148_138, e148_141, e148_142, e148_143, e148_144, e148_145, e148_146, e148_147, e148_148, J_add, J_sub, J_mul, J_neg, J_lt, J_le, J_eq, gArr_J, gAst_J, gSiz_J, gFld_o, gUpd_o0, gUpd_o1, gUpd_o2, gUpd_o3, gUpd_o4, gUpd_o5, gUpd_o6, gUpd_o7, gUpd_o8, gUpd_o9, gUpd_o10, gUpd_o11, gUpd_o12, gUpd_o13, gUpd_o14, gUpd_o15, gUpd_o16, gUpd_o17, gUpd_o18, gIsO_o, Option.bind_some, List.getElem?_cons_zero, List.getElem?_cons_succ, List.length_cons, List.length_nil, List.set_cons_zero, List.set_cons_succ, gCat_nil, gCat_int, gCat_ref, if_pos, if_neg, Option.toList_some, Option.toList_none, List.cons_append, List.nil_append, B_nar, J1_nar, J0_nar, if_true, if_false, rd_wr_same, rd_wr_ne, true_and, and_true, B_0, B_1, not_true_eq_false, not_false_eq_true, rdM0, rdM1, rdM2, rdM3, rdM4, rdM5, rdM6, rdM7, rdM8, rdM9, rdM10, rdM11, rdM12, wM1, wM2, wM3, wM4, wM5, wM6, wM7, wM8, wM9, wM10, wM11, wM12, wM0_0, wM0_1, wM0_2, wM0_3, wM0_4, wM0_5, wM0_6, e2, hq, p0, p1, c1]

theorem l148b {nat : gNat} {d : Nat} {w : gWd} {x : Nat} {M K : Lay} (hx : x + 12 < gSTR) (hL : mLaw K (M 5)) (hK : vK K) {r : Nat} (hr : r = 6 ∨ r = 7) {T : Lay} (hT : vS K T) {N : Nat} (hN : (N : Int) = K 0 1) : ∀ (k n : Nat) (f : Int → Int) (z4 : Option Value), n + k = N → mRow K (unpJ K T n) f → ∃ f' z4', mRow K (unp K T) f' ∧ gX (gC nat (d + 3)) nat 148 47 [some (.ref x), some (.ref (x + r)), some (.int (J 1)), some (.int (J n)), z4] [] [] (putM w x (rset M r f)) = gX (gC nat (d + 3)) nat 148 141 [some (.ref x), some (.ref (x + r)), some (.int (J 1)), some (.int (J N)), z4'] [] [] (putM w x (rset M r f')) := by
  obtain ⟨k0, k1, k2, k3, k4, kg, kd, kr⟩ := id hK
  obtain ⟨f0, f1, f2, f3, f4, fr, fg, fd⟩ := id hL
  intro k
  induction k with
  | zero =>
    intro n f z4 hn hf
    rw [Nat.add_zero] at hn
    subst hn
    rw [unpJ_n hN] at hf
    refine ⟨f, z4, hf, ?_⟩
    have e2 : (rset M r f) 5 1 = K 0 1 := by rw [rset_5 hr]; exact f1
    rw [e148_47]
    simp (disch := first | omega | exact Nat.le_of_ble_eq_true rfl) only [e148_0, e148_1, e148_3, e148_4, e148_7, e148_8, e148_9, e148_12, e148_13, e148_15, e148_16, e148_17, e148_18, e148_20, e148_23, e148_24, e148_25, e148_26, e148_27, e148_30, e148_33, e148_34, e148_35, e148_36, e148_39, e148_42, e148_46, e148_48, e148_49, e148_52, e148_53, e148_54, e148_57, e148_58, e148_61, e148_62, e148_63, e148_64, e148_67, e148_70, e148_71, e148_74, e148_75, e148_76, e148_77, e148_80, e148_81, e148_84, e148_85, e148_88, e148_89, e148_91, e148_92, e148_93, e148_94, e148_95, e148_96, e148_97, e148_98, e148_99, e148_100, e148_102, e148_105, e148_106, e148_107, e148_108, e148_109, e148_110, e148_112, e148_113, e148_116, e148_117, e148_118, e148_119, e148_122, e148_125, e148_126, e148_127, e148_128, e148_129, e148_130, e148_133, e148_134, e148_135, e148_138, e148_142, e148_143, e148_144, e148_145, e148_146, e148_147, e148_148, J_add, J_sub, J_mul, J_neg, J_lt, J_le, J_eq, gArr_J, gAst_J, gSiz_J, gFld_o, gUpd_o0, gUpd_o1, gUpd_o2, gUpd_o3, gUpd_o4, gUpd_o5, gUpd_o6, gUpd_o7, gUpd_o8, gUpd_o9, gUpd_o10, gUpd_o11, gUpd_o12, gUpd_o13, gUpd_o14, gUpd_o15, gUpd_o16, gUpd_o17, gUpd_o18, gIsO_o, Option.bind_some, List.getElem?_cons_zero, List.getElem?_cons_succ, List.length_cons, List.length_nil, List.set_cons_zero, List.set_cons_succ, gCat_nil, gCat_int, gCat_ref, if_pos, if_neg, Option.toList_some, Option.toList_none, List.cons_append, List.nil_append, B_nar, J1_nar, J0_nar, if_true, if_false, rd_wr_same, rd_wr_ne, true_and, and_true, B_0, B_1, not_true_eq_false, not_false_eq_true, rdM0, rdM1, rdM2, rdM3, rdM4, rdM5, rdM6, rdM7, rdM8, rdM9, rdM10, rdM11, rdM12, wM1, wM2, wM3, wM4, wM5, wM6, wM7, wM8, wM9, wM10, wM11, wM12, wM0_0, wM0_1, wM0_2, wM0_3, wM0_4, wM0_5, wM0_6, e2]
  | succ k ih =>
    intro n f z4 hn hf
    have e5 := mn5 (M := M) (f := f) hr
    have e2 : (rset M r f) 5 1 = K 0 1 := by rw [rset_5 hr]; exact f1
    have hq := rdMr (w := w) (x := x) (M := rset M r f) hr
    rw [rset_at] at hq
    have hw : ∀ i v, wr (putM w x (rset M r f)) (x + r) (iC 17 (eI (fset f i v))) = putM w x (rset M r (fset f i v)) := fun i v => by
      have h := wMr (w := w) (x := x) (M := rset M r f) hr (i := i) (v := v)
      rw [rset_at, rset_rset] at h
      exact h
    have p1 := hf.2.1 n (by omega) (by omega)
    rw [unpJ_at] at p1
    have hb := hT.2.1 n (by omega) (by omega)
    obtain ⟨q0, q1, q2, q3, q4, q5⟩ := kg n (by omega) (by omega)
    have c0 := s141 (nat := nat) (d := d + 2) (w := w) (M := rset M r f) hx (by rw [e5]; exact hL) hK (g := n) (i := 0) (by omega) (by omega)
    rw [Int.add_zero] at c0
    have c4 := s141 (nat := nat) (d := d + 1) (w := w) (M := rset M r f) hx (by rw [e5]; exact hL) hK (g := n) (i := 4) (by omega) (by omega)
    have c1 : gC nat (d + 3) 142 [.ref x, .ref (x + r), .int (J n)] (putM w x (rset M r f)) = some (some (.int (B (K 1 (5 * (n : Int) + 4) ≤ T 1 n))), putM w x (rset M r f)) := by
      rw [en142]
      by_cases hc : K 1 (5 * (n : Int) + 4) ≤ T 1 n
      · rw [B_pos hc]
        simp (disch := first | omega | exact Nat.le_of_ble_eq_true rfl) only [e142_0, e142_1, e142_2, e142_3, e142_4, e142_5, e142_6, e142_7, e142_8, e142_11, e142_14, e142_15, e142_18, e142_19, J_add, J_sub, J_mul, J_neg, J_lt, J_le, J_eq, gArr_J, gAst_J, gSiz_J, gFld_o, gUpd_o0, gUpd_o1, gUpd_o2, gUpd_o3, gUpd_o4, gUpd_o5, gUpd_o6, gUpd_o7, gUpd_o8, gUpd_o9, gUpd_o10, gUpd_o11, gUpd_o12, gUpd_o13, gUpd_o14, gUpd_o15, gUpd_o16, gUpd_o17, gUpd_o18, gIsO_o, Option.bind_some, List.getElem?_cons_zero, List.getElem?_cons_succ, List.length_cons, List.length_nil, List.set_cons_zero, List.set_cons_succ, gCat_nil, gCat_int, gCat_ref, if_pos, if_neg, Option.toList_some, Option.toList_none, List.cons_append, List.nil_append, B_nar, J1_nar, J0_nar, if_true, if_false, rd_wr_same, rd_wr_ne, true_and, and_true, B_0, B_1, not_true_eq_false, not_false_eq_true, rdM0, rdM1, rdM2, rdM3, rdM4, rdM5, rdM6, rdM7, rdM8, rdM9, rdM10, rdM11, rdM12, wM1, wM2, wM3, wM4, wM5, wM6, wM7, wM8, wM9, wM10, wM11, wM12, wM0_0, wM0_1, wM0_2, wM0_3, wM0_4, wM0_5, wM0_6, hq, c4, p1]
      · rw [B_neg hc]
        simp (disch := first | omega | exact Nat.le_of_ble_eq_true rfl) only [e142_0, e142_1, e142_2, e142_3, e142_4, e142_5, e142_6, e142_7, e142_8, e142_11, e142_14, e142_15, e142_18, e142_19, J_add, J_sub, J_mul, J_neg, J_lt, J_le, J_eq, gArr_J, gAst_J, gSiz_J, gFld_o, gUpd_o0, gUpd_o1, gUpd_o2, gUpd_o3, gUpd_o4, gUpd_o5, gUpd_o6, gUpd_o7, gUpd_o8, gUpd_o9, gUpd_o10, gUpd_o11, gUpd_o12, gUpd_o13, gUpd_o14, gUpd_o15, gUpd_o16, gUpd_o17, gUpd_o18, gIsO_o, Option.bind_some, List.getElem?_cons_zero, List.getElem?_cons_succ, List.length_cons, List.length_nil, List.set_cons_zero, List.set_cons_succ, gCat_nil, gCat_int, gCat_ref, if_pos, if_neg, Option.toList_some, Option.toList_none, List.cons_append, List.nil_append, B_nar, J1_nar, J0_nar, if_true, if_false, rd_wr_same, rd_wr_ne, true_and, and_true, B_0, B_1, not_true_eq_false, not_false_eq_true, rdM0, rdM1, rdM2, rdM3, rdM4, rdM5, rdM6, rdM7, rdM8, rdM9, rdM10, rdM11, rdM12, wM1, wM2, wM3, wM4, wM5, wM6, wM7, wM8, wM9, wM10, wM11, wM12, wM0_0, wM0_1, wM0_2, wM0_3, wM0_4, wM0_5, wM0_6, hq, c4, p1]
    have step : ∀ f1 z4', mRow K (unpJ K T (n + 1)) f1 → gX (gC nat (d + 3)) nat 148 47 [some (.ref x), some (.ref (x + r)), some (.int (J 1)), some (.int (J n)), z4] [] [] (putM w x (rset M r f)) = gX (gC nat (d + 3)) nat 148 47 [some (.ref x), some (.ref (x + r)), some (.int (J 1)), some (.int (J (n + 1 : Nat))), z4'] [] [] (putM w x (rset M r f1)) → ∃ f' z4', mRow K (unp K T) f' ∧ gX (gC nat (d + 3)) nat 148 47 [some (.ref x), some (.ref (x + r)), some (.int (J 1)), some (.int (J n)), z4] [] [] (putM w x (rset M r f)) = gX (gC nat (d + 3)) nat 148 141 [some (.ref x), some (.ref (x + r)), some (.int (J 1)), some (.int (J N)), z4'] [] [] (putM w x (rset M r f')) := fun f1 z h1 h2 => by
      obtain ⟨f', z', g1, g2⟩ := ih (n + 1) f1 z (by omega) h1
      exact ⟨f', z', g1, h2.trans g2⟩
    have hr1 := mRow_did hf (g := n) (v := (unpJ K T (n + 1)) 1 n) hK (by omega)
    rw [unpJ_s] at hr1
    have ev : (unpJ K T (n + 1)) 1 n = if T 1 n < K 1 (5 * (n : Int) + 4) then (if T 1 n - (if K 1 (5 * (n : Int)) = 2 then 2 else 1) < 0 then 0 else T 1 n - (if K 1 (5 * (n : Int)) = 2 then 2 else 1)) else T 1 n := by
      unfold unpJ
      by_cases h : T 1 n < K 1 (5 * (n : Int) + 4)
      · rw [if_pos h, if_pos ⟨rfl, by omega, by omega, h⟩]
      · rw [if_neg h, if_neg (fun z => h z.2.2.2)]
    rw [ev] at hr1
    by_cases hc : K 1 (5 * (n : Int) + 4) ≤ T 1 n
    · rw [B_pos hc] at c1
      rw [if_neg (by omega)] at hr1
      refine step _ (some (.int (J 0))) hr1 ?_
      rw [e148_47, show ((n + 1 : Nat) : Int) = (n : Int) + 1 from rfl]
      by_cases hz : T 1 n ≤ 0
      · exact absurd hz (by omega)
      ·
        simp (disch := first | omega | exact Nat.le_of_ble_eq_true rfl) only [e148_0, e148_1, e148_3, e148_4, e148_7, e148_8, e148_9, e148_12, e148_13, e148_15, e148_16, e148_17, e148_18, e148_20, e148_23, e148_24, e148_25, e148_26, e148_27, e148_30, e148_33, e148_34, e148_35, e148_36, e148_39, e148_42, e148_46, e148_48, e148_49, e148_52, e148_53, e148_54, e148_57, e148_58, e148_61, e148_62, e148_63, e148_64, e148_67, e148_70, e148_71, e148_74, e148_75, e148_76, e148_77, e148_80, e148_81, e148_84, e148_85, e148_88, e148_89, e148_91, e148_92, e148_93, e148_94, e148_95, e148_96, e148_97, e148_98, e148_99, e148_100, e148_102, e148_105, e148_106, e148_107, e148_108, e148_109, e148_110, e148_112, e148_113, e148_116, e148_117, e148_118, e148_119, e148_122, e148_125, e148_126, e148_127, e148_128, e148_129, e148_130, e148_133, e148_134, e148_135, e148_138, e148_142, e148_143, e148_144, e148_145, e148_146, e148_147, e148_148, J_add, J_sub, J_mul, J_neg, J_lt, J_le, J_eq, gArr_J, gAst_J, gSiz_J, gFld_o, gUpd_o0, gUpd_o1, gUpd_o2, gUpd_o3, gUpd_o4, gUpd_o5, gUpd_o6, gUpd_o7, gUpd_o8, gUpd_o9, gUpd_o10, gUpd_o11, gUpd_o12, gUpd_o13, gUpd_o14, gUpd_o15, gUpd_o16, gUpd_o17, gUpd_o18, gIsO_o, Option.bind_some, List.getElem?_cons_zero, List.getElem?_cons_succ, List.length_cons, List.length_nil, List.set_cons_zero, List.set_cons_succ, gCat_nil, gCat_int, gCat_ref, if_pos, if_neg, Option.toList_some, Option.toList_none, List.cons_append, List.nil_append, B_nar, J1_nar, J0_nar, if_true, if_false, rd_wr_same, rd_wr_ne, true_and, and_true, B_0, B_1, not_true_eq_false, not_false_eq_true, rdM0, rdM1, rdM2, rdM3, rdM4, rdM5, rdM6, rdM7, rdM8, rdM9, rdM10, rdM11, rdM12, wM1, wM2, wM3, wM4, wM5, wM6, wM7, wM8, wM9, wM10, wM11, wM12, wM0_0, wM0_1, wM0_2, wM0_3, wM0_4, wM0_5, wM0_6, e2, hq, hw, c1, p1, Int.sub_zero]
    · rw [B_neg hc] at c1
      rw [if_pos (by omega)] at hr1
      by_cases hk : K 1 (5 * (n : Int)) = 2
      · rw [if_pos hk] at hr1
        rw [hk] at c0
        by_cases hz : T 1 n ≤ 2
        · have e0 : (if T 1 n - 2 < 0 then 0 else T 1 n - 2) = 0 := by split <;> omega
          rw [e0] at hr1
          refine step _ (some (.int (J 2))) hr1 ?_
          rw [e148_47, show ((n + 1 : Nat) : Int) = (n : Int) + 1 from rfl]
          simp (disch := first | omega | exact Nat.le_of_ble_eq_true rfl) only [e148_0, e148_1, e148_3, e148_4, e148_7, e148_8, e148_9, e148_12, e148_13, e148_15, e148_16, e148_17, e148_18, e148_20, e148_23, e148_24, e148_25, e148_26, e148_27, e148_30, e148_33, e148_34, e148_35, e148_36, e148_39, e148_42, e148_46, e148_48, e148_49, e148_52, e148_53, e148_54, e148_57, e148_58, e148_61, e148_62, e148_63, e148_64, e148_67, e148_70, e148_71, e148_74, e148_75, e148_76, e148_77, e148_80, e148_81, e148_84, e148_85, e148_88, e148_89, e148_91, e148_92, e148_93, e148_94, e148_95, e148_96, e148_97, e148_98, e148_99, e148_100, e148_102, e148_105, e148_106, e148_107, e148_108, e148_109, e148_110, e148_112, e148_113, e148_116, e148_117, e148_118, e148_119, e148_122, e148_125, e148_126, e148_127, e148_128, e148_129, e148_130, e148_133, e148_134, e148_135, e148_138, e148_142, e148_143, e148_144, e148_145, e148_146, e148_147, e148_148, J_add, J_sub, J_mul, J_neg, J_lt, J_le, J_eq, gArr_J, gAst_J, gSiz_J, gFld_o, gUpd_o0, gUpd_o1, gUpd_o2, gUpd_o3, gUpd_o4, gUpd_o5, gUpd_o6, gUpd_o7, gUpd_o8, gUpd_o9, gUpd_o10, gUpd_o11, gUpd_o12, gUpd_o13, gUpd_o14, gUpd_o15, gUpd_o16, gUpd_o17, gUpd_o18, gIsO_o, Option.bind_some, List.getElem?_cons_zero, List.getElem?_cons_succ, List.length_cons, List.length_nil, List.set_cons_zero, List.set_cons_succ, gCat_nil, gCat_int, gCat_ref, if_pos, if_neg, Option.toList_some, Option.toList_none, List.cons_append, List.nil_append, B_nar, J1_nar, J0_nar, if_true, if_false, rd_wr_same, rd_wr_ne, true_and, and_true, B_0, B_1, not_true_eq_false, not_false_eq_true, rdM0, rdM1, rdM2, rdM3, rdM4, rdM5, rdM6, rdM7, rdM8, rdM9, rdM10, rdM11, rdM12, wM1, wM2, wM3, wM4, wM5, wM6, wM7, wM8, wM9, wM10, wM11, wM12, wM0_0, wM0_1, wM0_2, wM0_3, wM0_4, wM0_5, wM0_6, e2, hq, hw, c0, c1, p1]
        · rw [if_neg (by omega)] at hr1
          refine step _ (some (.int (J 2))) hr1 ?_
          rw [e148_47, show ((n + 1 : Nat) : Int) = (n : Int) + 1 from rfl]
          simp (disch := first | omega | exact Nat.le_of_ble_eq_true rfl) only [e148_0, e148_1, e148_3, e148_4, e148_7, e148_8, e148_9, e148_12, e148_13, e148_15, e148_16, e148_17, e148_18, e148_20, e148_23, e148_24, e148_25, e148_26, e148_27, e148_30, e148_33, e148_34, e148_35, e148_36, e148_39, e148_42, e148_46, e148_48, e148_49, e148_52, e148_53, e148_54, e148_57, e148_58, e148_61, e148_62, e148_63, e148_64, e148_67, e148_70, e148_71, e148_74, e148_75, e148_76, e148_77, e148_80, e148_81, e148_84, e148_85, e148_88, e148_89, e148_91, e148_92, e148_93, e148_94, e148_95, e148_96, e148_97, e148_98, e148_99, e148_100, e148_102, e148_105, e148_106, e148_107, e148_108, e148_109, e148_110, e148_112, e148_113, e148_116, e148_117, e148_118, e148_119, e148_122, e148_125, e148_126, e148_127, e148_128, e148_129, e148_130, e148_133, e148_134, e148_135, e148_138, e148_142, e148_143, e148_144, e148_145, e148_146, e148_147, e148_148, J_add, J_sub, J_mul, J_neg, J_lt, J_le, J_eq, gArr_J, gAst_J, gSiz_J, gFld_o, gUpd_o0, gUpd_o1, gUpd_o2, gUpd_o3, gUpd_o4, gUpd_o5, gUpd_o6, gUpd_o7, gUpd_o8, gUpd_o9, gUpd_o10, gUpd_o11, gUpd_o12, gUpd_o13, gUpd_o14, gUpd_o15, gUpd_o16, gUpd_o17, gUpd_o18, gIsO_o, Option.bind_some, List.getElem?_cons_zero, List.getElem?_cons_succ, List.length_cons, List.length_nil, List.set_cons_zero, List.set_cons_succ, gCat_nil, gCat_int, gCat_ref, if_pos, if_neg, Option.toList_some, Option.toList_none, List.cons_append, List.nil_append, B_nar, J1_nar, J0_nar, if_true, if_false, rd_wr_same, rd_wr_ne, true_and, and_true, B_0, B_1, not_true_eq_false, not_false_eq_true, rdM0, rdM1, rdM2, rdM3, rdM4, rdM5, rdM6, rdM7, rdM8, rdM9, rdM10, rdM11, rdM12, wM1, wM2, wM3, wM4, wM5, wM6, wM7, wM8, wM9, wM10, wM11, wM12, wM0_0, wM0_1, wM0_2, wM0_3, wM0_4, wM0_5, wM0_6, e2, hq, hw, c0, c1, p1]
      · rw [if_neg hk] at hr1
        by_cases hz : T 1 n ≤ 1
        · have e0 : (if T 1 n - 1 < 0 then 0 else T 1 n - 1) = 0 := by split <;> omega
          rw [e0] at hr1
          refine step _ (some (.int (J 1))) hr1 ?_
          rw [e148_47, show ((n + 1 : Nat) : Int) = (n : Int) + 1 from rfl]
          simp (disch := first | omega | exact Nat.le_of_ble_eq_true rfl) only [e148_0, e148_1, e148_3, e148_4, e148_7, e148_8, e148_9, e148_12, e148_13, e148_15, e148_16, e148_17, e148_18, e148_20, e148_23, e148_24, e148_25, e148_26, e148_27, e148_30, e148_33, e148_34, e148_35, e148_36, e148_39, e148_42, e148_46, e148_48, e148_49, e148_52, e148_53, e148_54, e148_57, e148_58, e148_61, e148_62, e148_63, e148_64, e148_67, e148_70, e148_71, e148_74, e148_75, e148_76, e148_77, e148_80, e148_81, e148_84, e148_85, e148_88, e148_89, e148_91, e148_92, e148_93, e148_94, e148_95, e148_96, e148_97, e148_98, e148_99, e148_100, e148_102, e148_105, e148_106, e148_107, e148_108, e148_109, e148_110, e148_112, e148_113, e148_116, e148_117, e148_118, e148_119, e148_122, e148_125, e148_126, e148_127, e148_128, e148_129, e148_130, e148_133, e148_134, e148_135, e148_138, e148_142, e148_143, e148_144, e148_145, e148_146, e148_147, e148_148, J_add, J_sub, J_mul, J_neg, J_lt, J_le, J_eq, gArr_J, gAst_J, gSiz_J, gFld_o, gUpd_o0, gUpd_o1, gUpd_o2, gUpd_o3, gUpd_o4, gUpd_o5, gUpd_o6, gUpd_o7, gUpd_o8, gUpd_o9, gUpd_o10, gUpd_o11, gUpd_o12, gUpd_o13, gUpd_o14, gUpd_o15, gUpd_o16, gUpd_o17, gUpd_o18, gIsO_o, Option.bind_some, List.getElem?_cons_zero, List.getElem?_cons_succ, List.length_cons, List.length_nil, List.set_cons_zero, List.set_cons_succ, gCat_nil, gCat_int, gCat_ref, if_pos, if_neg, Option.toList_some, Option.toList_none, List.cons_append, List.nil_append, B_nar, J1_nar, J0_nar, if_true, if_false, rd_wr_same, rd_wr_ne, true_and, and_true, B_0, B_1, not_true_eq_false, not_false_eq_true, rdM0, rdM1, rdM2, rdM3, rdM4, rdM5, rdM6, rdM7, rdM8, rdM9, rdM10, rdM11, rdM12, wM1, wM2, wM3, wM4, wM5, wM6, wM7, wM8, wM9, wM10, wM11, wM12, wM0_0, wM0_1, wM0_2, wM0_3, wM0_4, wM0_5, wM0_6, e2, hq, hw, c0, c1, p1]
        · rw [if_neg (by omega)] at hr1
          refine step _ (some (.int (J 1))) hr1 ?_
          rw [e148_47, show ((n + 1 : Nat) : Int) = (n : Int) + 1 from rfl]
          simp (disch := first | omega | exact Nat.le_of_ble_eq_true rfl) only [e148_0, e148_1, e148_3, e148_4, e148_7, e148_8, e148_9, e148_12, e148_13, e148_15, e148_16, e148_17, e148_18, e148_20, e148_23, e148_24, e148_25, e148_26, e148_27, e148_30, e148_33, e148_34, e148_35, e148_36, e148_39, e148_42, e148_46, e148_48, e148_49, e148_52, e148_53, e148_54, e148_57, e148_58, e148_61, e148_62, e148_63, e148_64, e148_67, e148_70, e148_71, e148_74, e148_75, e148_76, e148_77, e148_80, e148_81, e148_84, e148_85, e148_88, e148_89, e148_91, e148_92, e148_93, e148_94, e148_95, e148_96, e148_97, e148_98, e148_99, e148_100, e148_102, e148_105, e148_106, e148_107, e148_108, e148_109, e148_110, e148_112, e148_113, e148_116, e148_117, e148_118, e148_119, e148_122, e148_125, e148_126, e148_127, e148_128, e148_129, e148_130, e148_133, e148_134, e148_135, e148_138, e148_142, e148_143, e148_144, e148_145, e148_146, e148_147, e148_148, J_add, J_sub, J_mul, J_neg, J_lt, J_le, J_eq, gArr_J, gAst_J, gSiz_J, gFld_o, gUpd_o0, gUpd_o1, gUpd_o2, gUpd_o3, gUpd_o4, gUpd_o5, gUpd_o6, gUpd_o7, gUpd_o8, gUpd_o9, gUpd_o10, gUpd_o11, gUpd_o12, gUpd_o13, gUpd_o14, gUpd_o15, gUpd_o16, gUpd_o17, gUpd_o18, gIsO_o, Option.bind_some, List.getElem?_cons_zero, List.getElem?_cons_succ, List.length_cons, List.length_nil, List.set_cons_zero, List.set_cons_succ, gCat_nil, gCat_int, gCat_ref, if_pos, if_neg, Option.toList_some, Option.toList_none, List.cons_append, List.nil_append, B_nar, J1_nar, J0_nar, if_true, if_false, rd_wr_same, rd_wr_ne, true_and, and_true, B_0, B_1, not_true_eq_false, not_false_eq_true, rdM0, rdM1, rdM2, rdM3, rdM4, rdM5, rdM6, rdM7, rdM8, rdM9, rdM10, rdM11, rdM12, wM1, wM2, wM3, wM4, wM5, wM6, wM7, wM8, wM9, wM10, wM11, wM12, wM0_0, wM0_1, wM0_2, wM0_3, wM0_4, wM0_5, wM0_6, e2, hq, hw, c0, c1, p1]


theorem s148 {nat : gNat} {d : Nat} {w : gWd} {x : Nat} {M K : Lay} (hx : x + 12 < gSTR) (hL : mLaw K (M 5)) (hK : vK K) {r : Nat} (hr : r = 6 ∨ r = 7) {S : Lay} (hR : mRow K S (M (r : Int))) (hS : vS K S) (hh : S 0 0 < 1000000000) {q : Prop} [Decidable q] : ∃ f', gC nat (d + 4) 148 [.ref x, .ref (x + r), .int (B q)] (putM w x M) = some (none, putM w x (rset M r f')) ∧ mRow K (live K S q) f' := by
  obtain ⟨k0, k1, k2, k3, k4, kg, kd, kr⟩ := id hK
  obtain ⟨f0, f1, f2, f3, f4, fr, fg, fd⟩ := id hL
  have hs0 := hS.1
  obtain ⟨fa, a1, a2⟩ := l148a (nat := nat) (d := d) (w := w) hx hL hK hr hS (by omega) (z2 := some (.int (B q))) (z4 := none) (N := (K 0 2).toNat) (by omega) (K 0 2).toNat 0 (M (r : Int)) (by omega) (by
    have e : fln K S 0 = S := by unfold fln; split <;> rfl
    rw [e]; exact hR)
  rw [rset_self, show ((0 : Nat) : Int) = 0 from rfl] at a2
  have vT := vS_fln hK hS (n := (K 0 2).toNat) (by omega)
  have fin : ∀ (T : Lay) (f : Int → Int) (z3 z4 : Option Value), mRow K T f → T 0 0 = S 0 0 → ∃ f', gX (gC nat (d + 3)) nat 148 141 [some (.ref x), some (.ref (x + r)), some (.int (B q)), z3, z4] [] [] (putM w x (rset M r f)) = some (none, putM w x (rset M r f')) ∧ mRow K (sset T 0 0 (S 0 0 + 1)) f' := by
    intro T f z3 z4 hf h0
    refine ⟨fset f 0 (S 0 0 + 1), ?_, mRow_h hf hK⟩
    have hq := rdMr (w := w) (x := x) (M := rset M r f) hr
    rw [rset_at] at hq
    have hw : ∀ i v, wr (putM w x (rset M r f)) (x + r) (iC 17 (eI (fset f i v))) = putM w x (rset M r (fset f i v)) := fun i v => by
      have h := wMr (w := w) (x := x) (M := rset M r f) hr (i := i) (v := v)
      rw [rset_at, rset_rset] at h
      exact h
    have p0 := hf.1
    rw [h0] at p0
    simp (disch := first | omega | exact Nat.le_of_ble_eq_true rfl) only [e148_0, e148_1, e148_3, e148_4, e148_7, e148_8, e148_9, e148_12, e148_13, e148_15, e148_16, e148_17, e148_18, e148_20, e148_23, e148_24, e148_25, e148_26, e148_27, e148_30, e148_33, e148_34, e148_35, e148_36, e148_39, e148_42, e148_46, e148_48, e148_49, e148_52, e148_53, e148_54, e148_57, e148_58, e148_61, e148_62, e148_63, e148_64, e148_67, e148_70, e148_71, e148_74, e148_75, e148_76, e148_77, e148_80, e148_81, e148_84, e148_85, e148_88, e148_89, e148_91, e148_92, e148_93, e148_94, e148_95, e148_96, e148_97, e148_98, e148_99, e148_100, e148_102, e148_105, e148_106, e148_107, e148_108, e148_109, e148_110, e148_112, e148_113, e148_116, e148_117, e148_118, e148_119, e148_122, e148_125, e148_126, e148_127, e148_128, e148_129, e148_130, e148_133, e148_134, e148_135, e148_138, e148_141, e148_142, e148_143, e148_144, e148_145, e148_146, e148_147, e148_148, J_add, J_sub, J_mul, J_neg, J_lt, J_le, J_eq, gArr_J, gAst_J, gSiz_J, gFld_o, gUpd_o0, gUpd_o1, gUpd_o2, gUpd_o3, gUpd_o4, gUpd_o5, gUpd_o6, gUpd_o7, gUpd_o8, gUpd_o9, gUpd_o10, gUpd_o11, gUpd_o12, gUpd_o13, gUpd_o14, gUpd_o15, gUpd_o16, gUpd_o17, gUpd_o18, gIsO_o, Option.bind_some, List.getElem?_cons_zero, List.getElem?_cons_succ, List.length_cons, List.length_nil, List.set_cons_zero, List.set_cons_succ, gCat_nil, gCat_int, gCat_ref, if_pos, if_neg, Option.toList_some, Option.toList_none, List.cons_append, List.nil_append, B_nar, J1_nar, J0_nar, if_true, if_false, rd_wr_same, rd_wr_ne, true_and, and_true, B_0, B_1, not_true_eq_false, not_false_eq_true, rdM0, rdM1, rdM2, rdM3, rdM4, rdM5, rdM6, rdM7, rdM8, rdM9, rdM10, rdM11, rdM12, wM1, wM2, wM3, wM4, wM5, wM6, wM7, wM8, wM9, wM10, wM11, wM12, wM0_0, wM0_1, wM0_2, wM0_3, wM0_4, wM0_5, wM0_6, hq, hw, p0]
  have eL : live K S q = sset (if q then unp K (fln K S (K 0 2).toNat) else fln K S (K 0 2).toNat) 0 0 (S 0 0 + 1) := rfl
  rw [eL]
  by_cases hq : q
  · rw [if_pos hq]
    obtain ⟨fb, z', b1, b2⟩ := l148b (nat := nat) (d := d) (w := w) hx hL hK hr vT (N := (K 0 1).toNat) (by omega) (K 0 1).toNat 0 fa none (by omega) (by rw [unpJ_z]; exact a1)
    obtain ⟨f', c1, c2⟩ := fin _ fb (some (.int (J ((K 0 1).toNat : Nat)))) z' b1 (by rw [unp_h, fln_h])
    refine ⟨f', ?_, c2⟩
    rw [B_pos hq] at a2 c1 ⊢
    rw [show ((0 : Nat) : Int) = 0 from rfl] at b2
    rw [← c1, ← b2, en148]
    simp (disch := first | omega | exact Nat.le_of_ble_eq_true rfl) only [e148_0, e148_1, e148_3, e148_4, e148_7, e148_8, e148_9, e148_12, e148_13, e148_15, e148_16, e148_17, e148_18, e148_20, e148_23, e148_24, e148_25, e148_26, e148_27, e148_30, e148_33, e148_34, e148_35, e148_36, e148_39, e148_42, e148_46, e148_48, e148_49, e148_52, e148_53, e148_54, e148_57, e148_58, e148_61, e148_62, e148_63, e148_64, e148_67, e148_70, e148_71, e148_74, e148_75, e148_76, e148_77, e148_80, e148_81, e148_84, e148_85, e148_88, e148_89, e148_91, e148_92, e148_93, e148_94, e148_95, e148_96, e148_97, e148_98, e148_99, e148_100, e148_102, e148_105, e148_106, e148_107, e148_108, e148_109, e148_110, e148_112, e148_113, e148_116, e148_117, e148_118, e148_119, e148_122, e148_125, e148_126, e148_127, e148_128, e148_129, e148_130, e148_133, e148_134, e148_135, e148_138, e148_142, e148_143, e148_144, e148_145, e148_146, e148_147, e148_148, J_add, J_sub, J_mul, J_neg, J_lt, J_le, J_eq, gArr_J, gAst_J, gSiz_J, gFld_o, gUpd_o0, gUpd_o1, gUpd_o2, gUpd_o3, gUpd_o4, gUpd_o5, gUpd_o6, gUpd_o7, gUpd_o8, gUpd_o9, gUpd_o10, gUpd_o11, gUpd_o12, gUpd_o13, gUpd_o14, gUpd_o15, gUpd_o16, gUpd_o17, gUpd_o18, gIsO_o, Option.bind_some, List.getElem?_cons_zero, List.getElem?_cons_succ, List.length_cons, List.length_nil, List.set_cons_zero, List.set_cons_succ, gCat_nil, gCat_int, gCat_ref, if_pos, if_neg, Option.toList_some, Option.toList_none, List.cons_append, List.nil_append, B_nar, J1_nar, J0_nar, if_true, if_false, rd_wr_same, rd_wr_ne, true_and, and_true, B_0, B_1, not_true_eq_false, not_false_eq_true, rdM0, rdM1, rdM2, rdM3, rdM4, rdM5, rdM6, rdM7, rdM8, rdM9, rdM10, rdM11, rdM12, wM1, wM2, wM3, wM4, wM5, wM6, wM7, wM8, wM9, wM10, wM11, wM12, wM0_0, wM0_1, wM0_2, wM0_3, wM0_4, wM0_5, wM0_6, a2]
    rw [e148_45]
    simp (disch := first | omega | exact Nat.le_of_ble_eq_true rfl) only [e148_0, e148_1, e148_3, e148_4, e148_7, e148_8, e148_9, e148_12, e148_13, e148_15, e148_16, e148_17, e148_18, e148_20, e148_23, e148_24, e148_25, e148_26, e148_27, e148_30, e148_33, e148_34, e148_35, e148_36, e148_39, e148_42, e148_46, e148_48, e148_49, e148_52, e148_53, e148_54, e148_57, e148_58, e148_61, e148_62, e148_63, e148_64, e148_67, e148_70, e148_71, e148_74, e148_75, e148_76, e148_77, e148_80, e148_81, e148_84, e148_85, e148_88, e148_89, e148_91, e148_92, e148_93, e148_94, e148_95, e148_96, e148_97, e148_98, e148_99, e148_100, e148_102, e148_105, e148_106, e148_107, e148_108, e148_109, e148_110, e148_112, e148_113, e148_116, e148_117, e148_118, e148_119, e148_122, e148_125, e148_126, e148_127, e148_128, e148_129, e148_130, e148_133, e148_134, e148_135, e148_138, e148_142, e148_143, e148_144, e148_145, e148_146, e148_147, e148_148, J_add, J_sub, J_mul, J_neg, J_lt, J_le, J_eq, gArr_J, gAst_J, gSiz_J, gFld_o, gUpd_o0, gUpd_o1, gUpd_o2, gUpd_o3, gUpd_o4, gUpd_o5, gUpd_o6, gUpd_o7, gUpd_o8, gUpd_o9, gUpd_o10, gUpd_o11, gUpd_o12, gUpd_o13, gUpd_o14, gUpd_o15, gUpd_o16, gUpd_o17, gUpd_o18, gIsO_o, Option.bind_some, List.getElem?_cons_zero, List.getElem?_cons_succ, List.length_cons, List.length_nil, List.set_cons_zero, List.set_cons_succ, gCat_nil, gCat_int, gCat_ref, if_pos, if_neg, Option.toList_some, Option.toList_none, List.cons_append, List.nil_append, B_nar, J1_nar, J0_nar, if_true, if_false, rd_wr_same, rd_wr_ne, true_and, and_true, B_0, B_1, not_true_eq_false, not_false_eq_true, rdM0, rdM1, rdM2, rdM3, rdM4, rdM5, rdM6, rdM7, rdM8, rdM9, rdM10, rdM11, rdM12, wM1, wM2, wM3, wM4, wM5, wM6, wM7, wM8, wM9, wM10, wM11, wM12, wM0_0, wM0_1, wM0_2, wM0_3, wM0_4, wM0_5, wM0_6]
  · rw [if_neg hq]
    obtain ⟨f', c1, c2⟩ := fin _ fa (some (.int (J 0))) none a1 fln_h
    refine ⟨f', ?_, c2⟩
    rw [B_neg hq] at a2 c1 ⊢
    have e2 : (rset M r fa) 5 1 = K 0 1 := by rw [rset_5 hr]; exact f1
    rw [← c1, en148]
    simp (disch := first | omega | exact Nat.le_of_ble_eq_true rfl) only [e148_0, e148_1, e148_3, e148_4, e148_7, e148_8, e148_9, e148_12, e148_13, e148_15, e148_16, e148_17, e148_18, e148_20, e148_23, e148_24, e148_25, e148_26, e148_27, e148_30, e148_33, e148_34, e148_35, e148_36, e148_39, e148_42, e148_46, e148_48, e148_49, e148_52, e148_53, e148_54, e148_57, e148_58, e148_61, e148_62, e148_63, e148_64, e148_67, e148_70, e148_71, e148_74, e148_75, e148_76, e148_77, e148_80, e148_81, e148_84, e148_85, e148_88, e148_89, e148_91, e148_92, e148_93, e148_94, e148_95, e148_96, e148_97, e148_98, e148_99, e148_100, e148_102, e148_105, e148_106, e148_107, e148_108, e148_109, e148_110, e148_112, e148_113, e148_116, e148_117, e148_118, e148_119, e148_122, e148_125, e148_126, e148_127, e148_128, e148_129, e148_130, e148_133, e148_134, e148_135, e148_138, e148_142, e148_143, e148_144, e148_145, e148_146, e148_147, e148_148, J_add, J_sub, J_mul, J_neg, J_lt, J_le, J_eq, gArr_J, gAst_J, gSiz_J, gFld_o, gUpd_o0, gUpd_o1, gUpd_o2, gUpd_o3, gUpd_o4, gUpd_o5, gUpd_o6, gUpd_o7, gUpd_o8, gUpd_o9, gUpd_o10, gUpd_o11, gUpd_o12, gUpd_o13, gUpd_o14, gUpd_o15, gUpd_o16, gUpd_o17, gUpd_o18, gIsO_o, Option.bind_some, List.getElem?_cons_zero, List.getElem?_cons_succ, List.length_cons, List.length_nil, List.set_cons_zero, List.set_cons_succ, gCat_nil, gCat_int, gCat_ref, if_pos, if_neg, Option.toList_some, Option.toList_none, List.cons_append, List.nil_append, B_nar, J1_nar, J0_nar, if_true, if_false, rd_wr_same, rd_wr_ne, true_and, and_true, B_0, B_1, not_true_eq_false, not_false_eq_true, rdM0, rdM1, rdM2, rdM3, rdM4, rdM5, rdM6, rdM7, rdM8, rdM9, rdM10, rdM11, rdM12, wM1, wM2, wM3, wM4, wM5, wM6, wM7, wM8, wM9, wM10, wM11, wM12, wM0_0, wM0_1, wM0_2, wM0_3, wM0_4, wM0_5, wM0_6, a2]
    rw [e148_45]
    by_cases h0 : K 0 1 ≤ 0
    ·
      simp (disch := first | omega | exact Nat.le_of_ble_eq_true rfl) only [e148_0, e148_1, e148_3, e148_4, e148_7, e148_8, e148_9, e148_12, e148_13, e148_15, e148_16, e148_17, e148_18, e148_20, e148_23, e148_24, e148_25, e148_26, e148_27, e148_30, e148_33, e148_34, e148_35, e148_36, e148_39, e148_42, e148_46, e148_47, e148_48, e148_49, e148_52, e148_53, e148_54, e148_57, e148_58, e148_61, e148_62, e148_63, e148_64, e148_67, e148_70, e148_71, e148_74, e148_75, e148_76, e148_77, e148_80, e148_81, e148_84, e148_85, e148_88, e148_89, e148_91, e148_92, e148_93, e148_94, e148_95, e148_96, e148_97, e148_98, e148_99, e148_100, e148_102, e148_105, e148_106, e148_107, e148_108, e148_109, e148_110, e148_112, e148_113, e148_116, e148_117, e148_118, e148_119, e148_122, e148_125, e148_126, e148_127, e148_128, e148_129, e148_130, e148_133, e148_134, e148_135, e148_138, e148_142, e148_143, e148_144, e148_145, e148_146, e148_147, e148_148, J_add, J_sub, J_mul, J_neg, J_lt, J_le, J_eq, gArr_J, gAst_J, gSiz_J, gFld_o, gUpd_o0, gUpd_o1, gUpd_o2, gUpd_o3, gUpd_o4, gUpd_o5, gUpd_o6, gUpd_o7, gUpd_o8, gUpd_o9, gUpd_o10, gUpd_o11, gUpd_o12, gUpd_o13, gUpd_o14, gUpd_o15, gUpd_o16, gUpd_o17, gUpd_o18, gIsO_o, Option.bind_some, List.getElem?_cons_zero, List.getElem?_cons_succ, List.length_cons, List.length_nil, List.set_cons_zero, List.set_cons_succ, gCat_nil, gCat_int, gCat_ref, if_pos, if_neg, Option.toList_some, Option.toList_none, List.cons_append, List.nil_append, B_nar, J1_nar, J0_nar, if_true, if_false, rd_wr_same, rd_wr_ne, true_and, and_true, B_0, B_1, not_true_eq_false, not_false_eq_true, rdM0, rdM1, rdM2, rdM3, rdM4, rdM5, rdM6, rdM7, rdM8, rdM9, rdM10, rdM11, rdM12, wM1, wM2, wM3, wM4, wM5, wM6, wM7, wM8, wM9, wM10, wM11, wM12, wM0_0, wM0_1, wM0_2, wM0_3, wM0_4, wM0_5, wM0_6, e2]
    ·
      simp (disch := first | omega | exact Nat.le_of_ble_eq_true rfl) only [e148_0, e148_1, e148_3, e148_4, e148_7, e148_8, e148_9, e148_12, e148_13, e148_15, e148_16, e148_17, e148_18, e148_20, e148_23, e148_24, e148_25, e148_26, e148_27, e148_30, e148_33, e148_34, e148_35, e148_36, e148_39, e148_42, e148_46, e148_47, e148_48, e148_49, e148_52, e148_53, e148_54, e148_57, e148_58, e148_61, e148_62, e148_63, e148_64, e148_67, e148_70, e148_71, e148_74, e148_75, e148_76, e148_77, e148_80, e148_81, e148_84, e148_85, e148_88, e148_89, e148_91, e148_92, e148_93, e148_94, e148_95, e148_96, e148_97, e148_98, e148_99, e148_100, e148_102, e148_105, e148_106, e148_107, e148_108, e148_109, e148_110, e148_112, e148_113, e148_116, e148_117, e148_118, e148_119, e148_122, e148_125, e148_126, e148_127, e148_128, e148_129, e148_130, e148_133, e148_134, e148_135, e148_138, e148_142, e148_143, e148_144, e148_145, e148_146, e148_147, e148_148, J_add, J_sub, J_mul, J_neg, J_lt, J_le, J_eq, gArr_J, gAst_J, gSiz_J, gFld_o, gUpd_o0, gUpd_o1, gUpd_o2, gUpd_o3, gUpd_o4, gUpd_o5, gUpd_o6, gUpd_o7, gUpd_o8, gUpd_o9, gUpd_o10, gUpd_o11, gUpd_o12, gUpd_o13, gUpd_o14, gUpd_o15, gUpd_o16, gUpd_o17, gUpd_o18, gIsO_o, Option.bind_some, List.getElem?_cons_zero, List.getElem?_cons_succ, List.length_cons, List.length_nil, List.set_cons_zero, List.set_cons_succ, gCat_nil, gCat_int, gCat_ref, if_pos, if_neg, Option.toList_some, Option.toList_none, List.cons_append, List.nil_append, B_nar, J1_nar, J0_nar, if_true, if_false, rd_wr_same, rd_wr_ne, true_and, and_true, B_0, B_1, not_true_eq_false, not_false_eq_true, rdM0, rdM1, rdM2, rdM3, rdM4, rdM5, rdM6, rdM7, rdM8, rdM9, rdM10, rdM11, rdM12, wM1, wM2, wM3, wM4, wM5, wM6, wM7, wM8, wM9, wM10, wM11, wM12, wM0_0, wM0_1, wM0_2, wM0_3, wM0_4, wM0_5, wM0_6, e2]

theorem s149 {nat : gNat} {d : Nat} {w : gWd} {x : Nat} {M K : Lay} (hx : x + 12 < gSTR) (hL : mLaw K (M 5)) (hK : vK K) {r : Nat} (hr : r = 6 ∨ r = 7) {S : Lay} (hR : mRow K S (M (r : Int))) (hS : vS K S) (hh : S 0 0 < 1000000000) : ∃ f', gC nat (d + 5) 149 [.ref x, .ref (x + r)] (putM w x M) = some (none, putM w x (rset M r f')) ∧ mRow K (lives K S 1) f' := by
  have hs0 := hS.1
  have c1 := s145 (nat := nat) (d := d + 3) (w := w) hx hL hK (h := S 0 0) (by omega)
  obtain ⟨f', g1, g2⟩ := s148 (nat := nat) (d := d) (w := w) hx hL hK hr hR hS hh (q := 0 < K 0 4 ∧ K 3 (S 0 0 % K 0 4) = 1)
  refine ⟨f', ?_, g2⟩
  have hq := rdMr (w := w) (x := x) (M := M) hr
  have p0 := hR.1
  rw [en149]
  simp (disch := first | omega | exact Nat.le_of_ble_eq_true rfl) only [e149_0, e149_1, e149_2, e149_3, e149_4, e149_5, e149_6, e149_9, e149_12, J_add, J_sub, J_mul, J_neg, J_lt, J_le, J_eq, gArr_J, gAst_J, gSiz_J, gFld_o, gUpd_o0, gUpd_o1, gUpd_o2, gUpd_o3, gUpd_o4, gUpd_o5, gUpd_o6, gUpd_o7, gUpd_o8, gUpd_o9, gUpd_o10, gUpd_o11, gUpd_o12, gUpd_o13, gUpd_o14, gUpd_o15, gUpd_o16, gUpd_o17, gUpd_o18, gIsO_o, Option.bind_some, List.getElem?_cons_zero, List.getElem?_cons_succ, List.length_cons, List.length_nil, List.set_cons_zero, List.set_cons_succ, gCat_nil, gCat_int, gCat_ref, if_pos, if_neg, Option.toList_some, Option.toList_none, List.cons_append, List.nil_append, B_nar, J1_nar, J0_nar, if_true, if_false, rd_wr_same, rd_wr_ne, true_and, and_true, B_0, B_1, not_true_eq_false, not_false_eq_true, rdM0, rdM1, rdM2, rdM3, rdM4, rdM5, rdM6, rdM7, rdM8, rdM9, rdM10, rdM11, rdM12, wM1, wM2, wM3, wM4, wM5, wM6, wM7, wM8, wM9, wM10, wM11, wM12, wM0_0, wM0_1, wM0_2, wM0_3, wM0_4, wM0_5, wM0_6, hq, p0, c1, g1]
