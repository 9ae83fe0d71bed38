theorem act_v {K S : Lay} (hK : vK K) (hg : 1 ≤ K 0 1 ∧ 1 ≤ K 0 2) (hS : vS K S) (r : Int) : vS K (act K S r) ∧ (act K S r) 0 0 = S 0 0 := by
  have m1 := md_in (r := r / 64) hg.1
  have m2 := md_in (r := r / 8) hg.2
  have m3 := md_in (r := r / 8) hg.1
  unfold act
  split
  · split
    · exact ⟨hS, rfl⟩
    · exact ⟨vS_aim hK hS m2 (Or.inr ⟨m1.1, m1.2, by omega⟩), by rw [sset_row (by decide)]⟩
  · split
    · split
      · exact ⟨vS_cut hK hS m3, by rw [sset_row (by decide)]⟩
      · exact ⟨hS, rfl⟩
    · exact ⟨hS, rfl⟩
theorem smr_v {K S : Lay} (hK : vK K) (hg : 1 ≤ K 0 1 ∧ 1 ≤ K 0 2) (hS : vS K S) (z : Int) : ∀ k : Nat, vS K (smr K S z k) ∧ (smr K S z k) 0 0 = S 0 0 + k := by
  intro k
  induction k with
  | zero => exact ⟨hS, by rw [smr]; omega⟩
  | succ k ih =>
    obtain ⟨a1, a2⟩ := act_v hK hg ih.1 (dNum z k)
    rw [smr]
    refine ⟨vS_lives hK a1 1, ?_⟩
    rw [lives_h, a2, ih.2]
    omega
theorem sset_self {T : Lay} {a i : Int} : sset T a i (T a i) = T := by
  funext b k
  unfold sset
  split
  · rename_i h
    rw [h.1, h.2]
  · rfl
theorem s186 {nat : gNat} {d : Nat} {w : gWd} {x : Nat} {M K : Lay} (hx : x + 12 < gSTR) (hL : mLaw K (M 5)) (hK : vK K) (hg : 1 ≤ K 0 1 ∧ 1 ≤ K 0 2) {T : Lay} {f : Int → Int} (hf : mRow K T f) (hT : vS K T) {r : Int} (hr : 0 ≤ r ∧ r < 65521) : ∃ f', gC nat (d + 4) 186 [.ref x, .ref (x + 7), .int (J r)] (putM w x (rset M 7 f)) = some (none, putM w x (rset M 7 f')) ∧ mRow K (act K T r) f' := by
  obtain ⟨k0, k1, k2, k3, k4, kg, kd, kr⟩ := id hK
  obtain ⟨f0, f1, f2, f3, f4, fr, fg, fd⟩ := id hL
  have m1 := md_in (r := r / 64) hg.1
  have m2 := md_in (r := r / 8) hg.2
  have m3 := md_in (r := r / 8) hg.1
  have d8 : 0 ≤ r / 8 ∧ r / 8 < 65521 := by omega
  have d64 : 0 ≤ r / 64 ∧ r / 64 < 65521 := by omega
  have q0 := md_in (r := r) (b := 8) (by decide)
  rw [en186]
  unfold act
  by_cases q1 : r % 8 < 4
  · rw [if_pos q1]
    have c1 := s159 (nat := nat) (d := d) (w := w) (M := rset M 7 f) hx (by rw [rset_ne (by decide)]; exact hL) hK (r := 7) (Or.inr rfl) (S := T) (by rw [show ((7 : Nat) : Int) = 7 from rfl, rset_at]; exact hf) hT (y := r / 8 % K 0 2) (g := r / 64 % K 0 1) m2 (by omega)
    rw [if_neg (by omega)] at c1
    have p2 := (hf.2.2 _ m2.1 m2.2).2
    generalize hG : r / 64 % K 0 1 = g at *
    generalize hY : r / 8 % K 0 2 = y at *
    by_cases q2 : K 1 (5 * g + 4) ≤ T 1 g
    · rw [if_pos q2]
      rw [B_neg (fun z => z.2.elim (by omega) (fun e => e q2))] at c1
      have hR := mRow_sent hf (v := T 2 y) hK (y := y) m2
      rw [sset_self] at hR
      refine ⟨_, ?_, hR⟩
      simp (disch := first | omega | exact Nat.le_of_ble_eq_true rfl) only [e186_0, e186_1, e186_3, e186_4, e186_5, e186_8, e186_9, e186_11, e186_12, e186_13, e186_16, e186_17, e186_18, e186_19, e186_20, e186_21, e186_23, e186_24, e186_25, e186_28, e186_29, e186_30, e186_31, e186_33, e186_34, e186_36, e186_37, e186_38, e186_39, e186_40, e186_41, e186_43, e186_46, e186_49, e186_51, e186_54, e186_55, e186_57, e186_58, e186_59, e186_60, e186_61, e186_64, e186_65, e186_67, e186_68, e186_69, e186_72, e186_73, e186_75, e186_76, e186_77, e186_80, e186_81, e186_82, e186_83, e186_84, e186_85, e186_86, e186_87, e186_88, e186_89, e186_90, e186_91, e186_94, e186_97, e186_98, e186_101, e186_102, e186_103, e186_104, e186_105, e186_106, e186_107, J_add, J_sub, J_mul, J_neg, J_lt, J_le, J_eq, gArr_J, gAst_J, gSiz_J, gFld_o, gUpd_o0, gUpd_o1, gUpd_o2, gUpd_o3, gUpd_o4, gUpd_o5, gUpd_o6, gUpd_o7, gUpd_o8, gUpd_o9, gUpd_o10, gUpd_o11, gUpd_o12, gUpd_o13, gUpd_o14, gUpd_o15, gUpd_o16, gUpd_o17, gUpd_o18, gIsO_o, Option.bind_some, List.getElem?_cons_zero, List.getElem?_cons_succ, List.length_cons, List.length_nil, List.set_cons_zero, List.set_cons_succ, gCat_nil, gCat_int, gCat_ref, if_pos, if_neg, Option.toList_some, Option.toList_none, List.cons_append, List.nil_append, B_nar, J1_nar, J0_nar, if_true, if_false, rd_wr_same, rd_wr_ne, true_and, and_true, B_0, B_1, not_true_eq_false, not_false_eq_true, rdM0, rdM1, rdM2, rdM3, rdM4, rdM5, rdM6, rdM7, rdM8, rdM9, rdM10, rdM11, rdM12, rset_at, rset_ne, rset_rset, w0M, wZ1, wZ2, wZ3, wZ4, wZ5, wZ6, wZ7, wZ8, wZ9, wZ10, wZ11, wZ12, f7_0, f7_1, f7_2, f7_3, f7_4, f7_5, f7_6, f1, f2, c1, p2, hY, hG, J_div, I_mod, J_ne0]
    · rw [if_neg q2]
      refine ⟨_, ?_, mRow_sent hf (v := g) hK (y := y) m2⟩
      by_cases q3 : T 2 y = g
      · rw [B_neg (fun z => z.1 q3)] at c1
        rw [q3] at p2
        simp (disch := first | omega | exact Nat.le_of_ble_eq_true rfl) only [e186_0, e186_1, e186_3, e186_4, e186_5, e186_8, e186_9, e186_11, e186_12, e186_13, e186_16, e186_17, e186_18, e186_19, e186_20, e186_21, e186_23, e186_24, e186_25, e186_28, e186_29, e186_30, e186_31, e186_33, e186_34, e186_36, e186_37, e186_38, e186_39, e186_40, e186_41, e186_43, e186_46, e186_49, e186_51, e186_54, e186_55, e186_57, e186_58, e186_59, e186_60, e186_61, e186_64, e186_65, e186_67, e186_68, e186_69, e186_72, e186_73, e186_75, e186_76, e186_77, e186_80, e186_81, e186_82, e186_83, e186_84, e186_85, e186_86, e186_87, e186_88, e186_89, e186_90, e186_91, e186_94, e186_97, e186_98, e186_101, e186_102, e186_103, e186_104, e186_105, e186_106, e186_107, J_add, J_sub, J_mul, J_neg, J_lt, J_le, J_eq, gArr_J, gAst_J, gSiz_J, gFld_o, gUpd_o0, gUpd_o1, gUpd_o2, gUpd_o3, gUpd_o4, gUpd_o5, gUpd_o6, gUpd_o7, gUpd_o8, gUpd_o9, gUpd_o10, gUpd_o11, gUpd_o12, gUpd_o13, gUpd_o14, gUpd_o15, gUpd_o16, gUpd_o17, gUpd_o18, gIsO_o, Option.bind_some, List.getElem?_cons_zero, List.getElem?_cons_succ, List.length_cons, List.length_nil, List.set_cons_zero, List.set_cons_succ, gCat_nil, gCat_int, gCat_ref, if_pos, if_neg, Option.toList_some, Option.toList_none, List.cons_append, List.nil_append, B_nar, J1_nar, J0_nar, if_true, if_false, rd_wr_same, rd_wr_ne, true_and, and_true, B_0, B_1, not_true_eq_false, not_false_eq_true, rdM0, rdM1, rdM2, rdM3, rdM4, rdM5, rdM6, rdM7, rdM8, rdM9, rdM10, rdM11, rdM12, rset_at, rset_ne, rset_rset, w0M, wZ1, wZ2, wZ3, wZ4, wZ5, wZ6, wZ7, wZ8, wZ9, wZ10, wZ11, wZ12, f7_0, f7_1, f7_2, f7_3, f7_4, f7_5, f7_6, f1, f2, c1, p2, hY, hG, J_div, I_mod, J_ne0]
      · rw [B_pos ⟨q3, Or.inr q2⟩] at c1
        simp (disch := first | omega | exact Nat.le_of_ble_eq_true rfl) only [e186_0, e186_1, e186_3, e186_4, e186_5, e186_8, e186_9, e186_11, e186_12, e186_13, e186_16, e186_17, e186_18, e186_19, e186_20, e186_21, e186_23, e186_24, e186_25, e186_28, e186_29, e186_30, e186_31, e186_33, e186_34, e186_36, e186_37, e186_38, e186_39, e186_40, e186_41, e186_43, e186_46, e186_49, e186_51, e186_54, e186_55, e186_57, e186_58, e186_59, e186_60, e186_61, e186_64, e186_65, e186_67, e186_68, e186_69, e186_72, e186_73, e186_75, e186_76, e186_77, e186_80, e186_81, e186_82, e186_83, e186_84, e186_85, e186_86, e186_87, e186_88, e186_89, e186_90, e186_91, e186_94, e186_97, e186_98, e186_101, e186_102, e186_103, e186_104, e186_105, e186_106, e186_107, J_add, J_sub, J_mul, J_neg, J_lt, J_le, J_eq, gArr_J, gAst_J, gSiz_J, gFld_o, gUpd_o0, gUpd_o1, gUpd_o2, gUpd_o3, gUpd_o4, gUpd_o5, gUpd_o6, gUpd_o7, gUpd_o8, gUpd_o9, gUpd_o10, gUpd_o11, gUpd_o12, gUpd_o13, gUpd_o14, gUpd_o15, gUpd_o16, gUpd_o17, gUpd_o18, gIsO_o, Option.bind_some, List.getElem?_cons_zero, List.getElem?_cons_succ, List.length_cons, List.length_nil, List.set_cons_zero, List.set_cons_succ, gCat_nil, gCat_int, gCat_ref, if_pos, if_neg, Option.toList_some, Option.toList_none, List.cons_append, List.nil_append, B_nar, J1_nar, J0_nar, if_true, if_false, rd_wr_same, rd_wr_ne, true_and, and_true, B_0, B_1, not_true_eq_false, not_false_eq_true, rdM0, rdM1, rdM2, rdM3, rdM4, rdM5, rdM6, rdM7, rdM8, rdM9, rdM10, rdM11, rdM12, rset_at, rset_ne, rset_rset, w0M, wZ1, wZ2, wZ3, wZ4, wZ5, wZ6, wZ7, wZ8, wZ9, wZ10, wZ11, wZ12, f7_0, f7_1, f7_2, f7_3, f7_4, f7_5, f7_6, f1, f2, c1, p2, hY, hG, J_div, I_mod, J_ne0]
  · rw [if_neg q1]
    by_cases q2 : r % 8 = 4
    · rw [if_pos q2]
      have c1 := t142 (nat := nat) (d := d + 1) (w := w) (M := M) hx hL hK (r := 7) (Or.inr rfl) hf hT (g := r / 8 % K 0 1) m3
      rw [show ((7 : Nat) : Int) = 7 from rfl] at c1
      have p1 := hf.2.1 _ m3.1 m3.2
      generalize hG : r / 8 % K 0 1 = g at *
      by_cases q3 : K 1 (5 * g + 4) ≤ T 1 g
      · rw [if_pos q3]
        rw [B_pos q3] at c1
        refine ⟨_, ?_, mRow_did hf (v := 0) hK (g := g) m3⟩
        simp (disch := first | omega | exact Nat.le_of_ble_eq_true rfl) only [e186_0, e186_1, e186_3, e186_4, e186_5, e186_8, e186_9, e186_11, e186_12, e186_13, e186_16, e186_17, e186_18, e186_19, e186_20, e186_21, e186_23, e186_24, e186_25, e186_28, e186_29, e186_30, e186_31, e186_33, e186_34, e186_36, e186_37, e186_38, e186_39, e186_40, e186_41, e186_43, e186_46, e186_49, e186_51, e186_54, e186_55, e186_57, e186_58, e186_59, e186_60, e186_61, e186_64, e186_65, e186_67, e186_68, e186_69, e186_72, e186_73, e186_75, e186_76, e186_77, e186_80, e186_81, e186_82, e186_83, e186_84, e186_85, e186_86, e186_87, e186_88, e186_89, e186_90, e186_91, e186_94, e186_97, e186_98, e186_101, e186_102, e186_103, e186_104, e186_105, e186_106, e186_107, J_add, J_sub, J_mul, J_neg, J_lt, J_le, J_eq, gArr_J, gAst_J, gSiz_J, gFld_o, gUpd_o0, gUpd_o1, gUpd_o2, gUpd_o3, gUpd_o4, gUpd_o5, gUpd_o6, gUpd_o7, gUpd_o8, gUpd_o9, gUpd_o10, gUpd_o11, gUpd_o12, gUpd_o13, gUpd_o14, gUpd_o15, gUpd_o16, gUpd_o17, gUpd_o18, gIsO_o, Option.bind_some, List.getElem?_cons_zero, List.getElem?_cons_succ, List.length_cons, List.length_nil, List.set_cons_zero, List.set_cons_succ, gCat_nil, gCat_int, gCat_ref, if_pos, if_neg, Option.toList_some, Option.toList_none, List.cons_append, List.nil_append, B_nar, J1_nar, J0_nar, if_true, if_false, rd_wr_same, rd_wr_ne, true_and, and_true, B_0, B_1, not_true_eq_false, not_false_eq_true, rdM0, rdM1, rdM2, rdM3, rdM4, rdM5, rdM6, rdM7, rdM8, rdM9, rdM10, rdM11, rdM12, rset_at, rset_ne, rset_rset, w0M, wZ1, wZ2, wZ3, wZ4, wZ5, wZ6, wZ7, wZ8, wZ9, wZ10, wZ11, wZ12, f7_0, f7_1, f7_2, f7_3, f7_4, f7_5, f7_6, f1, f2, c1, p1, hG, q2, J_div, I_mod, J_ne0]
      · rw [if_neg q3]
        rw [B_neg q3] at c1
        have hR := mRow_did hf (v := T 1 g) hK (g := g) m3
        rw [sset_self] at hR
        refine ⟨_, ?_, hR⟩
        simp (disch := first | omega | exact Nat.le_of_ble_eq_true rfl) only [e186_0, e186_1, e186_3, e186_4, e186_5, e186_8, e186_9, e186_11, e186_12, e186_13, e186_16, e186_17, e186_18, e186_19, e186_20, e186_21, e186_23, e186_24, e186_25, e186_28, e186_29, e186_30, e186_31, e186_33, e186_34, e186_36, e186_37, e186_38, e186_39, e186_40, e186_41, e186_43, e186_46, e186_49, e186_51, e186_54, e186_55, e186_57, e186_58, e186_59, e186_60, e186_61, e186_64, e186_65, e186_67, e186_68, e186_69, e186_72, e186_73, e186_75, e186_76, e186_77, e186_80, e186_81, e186_82, e186_83, e186_84, e186_85, e186_86, e186_87, e186_88, e186_89, e186_90, e186_91, e186_94, e186_97, e186_98, e186_101, e186_102, e186_103, e186_104, e186_105, e186_106, e186_107, J_add, J_sub, J_mul, J_neg, J_lt, J_le, J_eq, gArr_J, gAst_J, gSiz_J, gFld_o, gUpd_o0, gUpd_o1, gUpd_o2, gUpd_o3, gUpd_o4, gUpd_o5, gUpd_o6, gUpd_o7, gUpd_o8, gUpd_o9, gUpd_o10, gUpd_o11, gUpd_o12, gUpd_o13, gUpd_o14, gUpd_o15, gUpd_o16, gUpd_o17, gUpd_o18, gIsO_o, Option.bind_some, List.getElem?_cons_zero, List.getElem?_cons_succ, List.length_cons, List.length_nil, List.set_cons_zero, List.set_cons_succ, gCat_nil, gCat_int, gCat_ref, if_pos, if_neg, Option.toList_some, Option.toList_none, List.cons_append, List.nil_append, B_nar, J1_nar, J0_nar, if_true, if_false, rd_wr_same, rd_wr_ne, true_and, and_true, B_0, B_1, not_true_eq_false, not_false_eq_true, rdM0, rdM1, rdM2, rdM3, rdM4, rdM5, rdM6, rdM7, rdM8, rdM9, rdM10, rdM11, rdM12, rset_at, rset_ne, rset_rset, w0M, wZ1, wZ2, wZ3, wZ4, wZ5, wZ6, wZ7, wZ8, wZ9, wZ10, wZ11, wZ12, f7_0, f7_1, f7_2, f7_3, f7_4, f7_5, f7_6, f1, f2, c1, p1, hG, q2, J_div, I_mod, J_ne0]
    · rw [if_neg q2]
      refine ⟨f, ?_, hf⟩
      simp (disch := first | omega | exact Nat.le_of_ble_eq_true rfl) only [e186_0, e186_1, e186_3, e186_4, e186_5, e186_8, e186_9, e186_11, e186_12, e186_13, e186_16, e186_17, e186_18, e186_19, e186_20, e186_21, e186_23, e186_24, e186_25, e186_28, e186_29, e186_30, e186_31, e186_33, e186_34, e186_36, e186_37, e186_38, e186_39, e186_40, e186_41, e186_43, e186_46, e186_49, e186_51, e186_54, e186_55, e186_57, e186_58, e186_59, e186_60, e186_61, e186_64, e186_65, e186_67, e186_68, e186_69, e186_72, e186_73, e186_75, e186_76, e186_77, e186_80, e186_81, e186_82, e186_83, e186_84, e186_85, e186_86, e186_87, e186_88, e186_89, e186_90, e186_91, e186_94, e186_97, e186_98, e186_101, e186_102, e186_103, e186_104, e186_105, e186_106, e186_107, J_add, J_sub, J_mul, J_neg, J_lt, J_le, J_eq, gArr_J, gAst_J, gSiz_J, gFld_o, gUpd_o0, gUpd_o1, gUpd_o2, gUpd_o3, gUpd_o4, gUpd_o5, gUpd_o6, gUpd_o7, gUpd_o8, gUpd_o9, gUpd_o10, gUpd_o11, gUpd_o12, gUpd_o13, gUpd_o14, gUpd_o15, gUpd_o16, gUpd_o17, gUpd_o18, gIsO_o, Option.bind_some, List.getElem?_cons_zero, List.getElem?_cons_succ, List.length_cons, List.length_nil, List.set_cons_zero, List.set_cons_succ, gCat_nil, gCat_int, gCat_ref, if_pos, if_neg, Option.toList_some, Option.toList_none, List.cons_append, List.nil_append, B_nar, J1_nar, J0_nar, if_true, if_false, rd_wr_same, rd_wr_ne, true_and, and_true, B_0, B_1, not_true_eq_false, not_false_eq_true, rdM0, rdM1, rdM2, rdM3, rdM4, rdM5, rdM6, rdM7, rdM8, rdM9, rdM10, rdM11, rdM12, rset_at, rset_ne, rset_rset, w0M, wZ1, wZ2, wZ3, wZ4, wZ5, wZ6, wZ7, wZ8, wZ9, wZ10, wZ11, wZ12, f7_0, f7_1, f7_2, f7_3, f7_4, f7_5, f7_6, f1, f2, J_div, I_mod, J_ne0]


theorem l187 {nat : gNat} {d : Nat} {w : gWd} {x : Nat} {M K : Lay} (hx : x + 12 < gSTR) (hL : mLaw K (M 5)) (hK : vK K) {S : Lay} (hR : mRow K S (M 6)) (hS : vS K S) (hH : 0 ≤ S 0 0 ∧ S 0 0 < 1000000) (hg : 1 ≤ K 0 1 ∧ 1 ≤ K 0 2) {z u : Int} (hz : 0 ≤ z ∧ z ≤ 9999) (hu : 0 ≤ u ∧ u ≤ 1) {N : Nat} (hN : N ≤ 60) : ∀ (k n : Nat) (f : Int → Int) (z5 z6 : Option Value) (m0 m1 m2 m3 m4 m5 m6 : Option Int64), n + k = N → mRow K (smr K S z n) f → ∃ f', gX (gC nat (d + 5)) nat 187 39 [some (.ref x), some (.int (J z)), some (.int (J N)), some (.int (J u)), some (.int (J n)), z5, z6] [m0, m1, m2, m3, m4, m5, m6] [] (putM w x (rset M 7 f)) = some (some (.int (J (if u = 0 then ((pop (cb K (smr K S z N)) : Nat) : Int) else ast (smr K S z N) (K 0 1).toNat))), putM w x (rset M 7 f')) := by
  obtain ⟨k0, k1, k2, k3, k4, kg, kd, kr⟩ := id hK
  obtain ⟨f0, f1, f2, f3, f4, fr, fg, fd⟩ := id hL
  intro k
  induction k with
  | zero =>
    intro n f z5 z6 m0 m1 m2 m3 m4 m5 m6 hn hf
    rw [Nat.add_zero] at hn
    subst hn
    obtain ⟨v1, v2⟩ := smr_v hK hg hS z n
    have c1 := t143 (nat := nat) (d := d + 2) (w := w) (M := M) hx hL hK (r := 7) (Or.inr rfl) hf v1
    have c2 := s124 (nat := nat) (d := d + 4) (w := putM w x (rset M 7 f)) (s := cb K (smr K S z n)) (cbs_lt _ _ _ (by omega))
    have c3 := s185 (nat := nat) (d := d + 4) (w := w) (M := rset M 7 f) hx (by rw [rset_ne (by decide)]; exact hL) hK (r := 7) (Or.inr rfl) (S := smr K S z n) (by rw [show ((7 : Nat) : Int) = 7 from rfl, rset_at]; exact hf) v1
    rw [show ((7 : Nat) : Int) = 7 from rfl] at c1
    refine ⟨f, ?_⟩
    rw [e187_39]
    by_cases q : u = 0
    · rw [if_pos q]
      simp (disch := first | omega | exact Nat.le_of_ble_eq_true rfl) only [e187_0, e187_1, e187_2, e187_5, e187_8, e187_11, e187_12, e187_13, e187_15, e187_18, e187_21, e187_22, e187_23, e187_24, e187_27, e187_30, e187_31, e187_32, e187_33, e187_36, e187_37, e187_41, e187_42, e187_45, e187_48, e187_49, e187_50, e187_51, e187_54, e187_56, e187_57, e187_58, e187_59, e187_60, e187_61, e187_63, e187_64, e187_65, e187_68, e187_70, e187_72, e187_73, e187_76, e187_77, e187_78, e187_81, e187_82, e187_83, e187_86, e187_89, e187_92, e187_95, e187_96, e187_99, e187_100, e187_101, e187_104, e187_107, e187_110, e187_113, e187_114, e187_115, e187_118, e187_121, J_add, J_sub, J_mul, J_neg, J_lt, J_le, J_eq, gArr_J, gAst_J, gSiz_J, gFld_o, gUpd_o0, gUpd_o1, gUpd_o2, gUpd_o3, gUpd_o4, gUpd_o5, gUpd_o6, gUpd_o7, gUpd_o8, gUpd_o9, gUpd_o10, gUpd_o11, gUpd_o12, gUpd_o13, gUpd_o14, gUpd_o15, gUpd_o16, gUpd_o17, gUpd_o18, gIsO_o, Option.bind_some, List.getElem?_cons_zero, List.getElem?_cons_succ, List.length_cons, List.length_nil, List.set_cons_zero, List.set_cons_succ, gCat_nil, gCat_int, gCat_ref, if_pos, if_neg, Option.toList_some, Option.toList_none, List.cons_append, List.nil_append, B_nar, J1_nar, J0_nar, if_true, if_false, rd_wr_same, rd_wr_ne, true_and, and_true, B_0, B_1, not_true_eq_false, not_false_eq_true, rdM0, rdM1, rdM2, rdM3, rdM4, rdM5, rdM6, rdM7, rdM8, rdM9, rdM10, rdM11, rdM12, rset_at, rset_ne, rset_rset, w0M, wZ1, wZ2, wZ3, wZ4, wZ5, wZ6, wZ7, wZ8, wZ9, wZ10, wZ11, wZ12, f7_0, f7_1, f7_2, f7_3, f7_4, f7_5, f7_6, c1, c2]
    · rw [if_neg q]
      simp (disch := first | omega | exact Nat.le_of_ble_eq_true rfl) only [e187_0, e187_1, e187_2, e187_5, e187_8, e187_11, e187_12, e187_13, e187_15, e187_18, e187_21, e187_22, e187_23, e187_24, e187_27, e187_30, e187_31, e187_32, e187_33, e187_36, e187_37, e187_41, e187_42, e187_45, e187_48, e187_49, e187_50, e187_51, e187_54, e187_56, e187_57, e187_58, e187_59, e187_60, e187_61, e187_63, e187_64, e187_65, e187_68, e187_70, e187_72, e187_73, e187_76, e187_77, e187_78, e187_81, e187_82, e187_83, e187_86, e187_89, e187_92, e187_95, e187_96, e187_99, e187_100, e187_101, e187_104, e187_107, e187_110, e187_113, e187_114, e187_115, e187_118, e187_121, J_add, J_sub, J_mul, J_neg, J_lt, J_le, J_eq, gArr_J, gAst_J, gSiz_J, gFld_o, gUpd_o0, gUpd_o1, gUpd_o2, gUpd_o3, gUpd_o4, gUpd_o5, gUpd_o6, gUpd_o7, gUpd_o8, gUpd_o9, gUpd_o10, gUpd_o11, gUpd_o12, gUpd_o13, gUpd_o14, gUpd_o15, gUpd_o16, gUpd_o17, gUpd_o18, gIsO_o, Option.bind_some, List.getElem?_cons_zero, List.getElem?_cons_succ, List.length_cons, List.length_nil, List.set_cons_zero, List.set_cons_succ, gCat_nil, gCat_int, gCat_ref, if_pos, if_neg, Option.toList_some, Option.toList_none, List.cons_append, List.nil_append, B_nar, J1_nar, J0_nar, if_true, if_false, rd_wr_same, rd_wr_ne, true_and, and_true, B_0, B_1, not_true_eq_false, not_false_eq_true, rdM0, rdM1, rdM2, rdM3, rdM4, rdM5, rdM6, rdM7, rdM8, rdM9, rdM10, rdM11, rdM12, rset_at, rset_ne, rset_rset, w0M, wZ1, wZ2, wZ3, wZ4, wZ5, wZ6, wZ7, wZ8, wZ9, wZ10, wZ11, wZ12, f7_0, f7_1, f7_2, f7_3, f7_4, f7_5, f7_6, c3]
  | succ k ih =>
    intro n f z5 z6 m0 m1 m2 m3 m4 m5 m6 hn hf
    obtain ⟨v1, v2⟩ := smr_v hK hg hS z n
    have hd := drw (z := z) (k := n) hz (by omega)
    have hi := dNum_in z n
    obtain ⟨f1, g1, g2⟩ := s186 (nat := nat) (d := d + 1) (w := w) (M := M) hx hL hK hg hf v1 (r := dNum z n) hi
    obtain ⟨a1, a2⟩ := act_v hK hg v1 (dNum z n)
    obtain ⟨f2', h1, h2⟩ := t149 (nat := nat) (d := d) (w := w) (M := M) hx hL hK (r := 7) (Or.inr rfl) g2 a1 (by omega)
    rw [show ((7 : Nat) : Int) = 7 from rfl] at h1
    obtain ⟨f', this⟩ := ih (n + 1) f2' none none m0 m1 m2 none none (some (7919 * (J z).toInt64 + 6151 * (J n).toInt64 + 1)) none (by omega) h2
    rw [show ((n + 1 : Nat) : Int) = (n : Int) + 1 from rfl] at this
    refine ⟨f', ?_⟩
    rw [← this, e187_39]
    simp (disch := first | omega | exact Nat.le_of_ble_eq_true rfl) only [e187_0, e187_1, e187_2, e187_5, e187_8, e187_11, e187_12, e187_13, e187_15, e187_18, e187_21, e187_22, e187_23, e187_24, e187_27, e187_30, e187_31, e187_32, e187_33, e187_36, e187_37, e187_41, e187_42, e187_45, e187_48, e187_49, e187_50, e187_51, e187_54, e187_56, e187_57, e187_58, e187_59, e187_60, e187_61, e187_63, e187_64, e187_65, e187_68, e187_70, e187_72, e187_73, e187_76, e187_77, e187_78, e187_81, e187_82, e187_83, e187_86, e187_89, e187_92, e187_95, e187_96, e187_99, e187_100, e187_101, e187_104, e187_107, e187_110, e187_113, e187_114, e187_115, e187_118, e187_121, J_add, J_sub, J_mul, J_neg, J_lt, J_le, J_eq, gArr_J, gAst_J, gSiz_J, gFld_o, gUpd_o0, gUpd_o1, gUpd_o2, gUpd_o3, gUpd_o4, gUpd_o5, gUpd_o6, gUpd_o7, gUpd_o8, gUpd_o9, gUpd_o10, gUpd_o11, gUpd_o12, gUpd_o13, gUpd_o14, gUpd_o15, gUpd_o16, gUpd_o17, gUpd_o18, gIsO_o, Option.bind_some, List.getElem?_cons_zero, List.getElem?_cons_succ, List.length_cons, List.length_nil, List.set_cons_zero, List.set_cons_succ, gCat_nil, gCat_int, gCat_ref, if_pos, if_neg, Option.toList_some, Option.toList_none, List.cons_append, List.nil_append, B_nar, J1_nar, J0_nar, if_true, if_false, rd_wr_same, rd_wr_ne, true_and, and_true, B_0, B_1, not_true_eq_false, not_false_eq_true, rdM0, rdM1, rdM2, rdM3, rdM4, rdM5, rdM6, rdM7, rdM8, rdM9, rdM10, rdM11, rdM12, rset_at, rset_ne, rset_rset, w0M, wZ1, wZ2, wZ3, wZ4, wZ5, wZ6, wZ7, wZ8, wZ9, wZ10, wZ11, wZ12, f7_0, f7_1, f7_2, f7_3, f7_4, f7_5, f7_6, hd, g1, h1]

theorem z187 {nat : gNat} {d : Nat} {w : gWd} {x : Nat} {M K : Lay} (hx : x + 12 < gSTR) (hL : mLaw K (M 5)) (hK : vK K) {S : Lay} (hR : mRow K S (M 6)) (hS : vS K S) (hH : 0 ≤ S 0 0 ∧ S 0 0 < 1000000) (hg : 1 ≤ K 0 1 ∧ 1 ≤ K 0 2) {z n u : Int} (h_z : -2147483648 ≤ z ∧ z < 2147483648) (h_n : -2147483648 ≤ n ∧ n < 2147483648) (h_u : -2147483648 ≤ u ∧ u < 2147483648) : ∃ f', gC nat (d + 6) 187 [.ref x, .int (J z), .int (J n), .int (J u)] (putM w x M) = some (some (.int (J (aSum K S z n u))), putM w x (rset M 7 f')) := by
  obtain ⟨k0, k1, k2, k3, k4, kg, kd, kr⟩ := id hK
  obtain ⟨f0, f1, f2, f3, f4, fr, fg, fd⟩ := id hL
  have c1 := s122 (nat := nat) (d := d + 4) (w := (putM w x M)) (v := z) (l := 0) (h := 9999) (by omega) (by omega) (by omega)
  have c2 := s122 (nat := nat) (d := d + 4) (w := (putM w x M)) (v := n) (l := 1) (h := 60) (by omega) (by omega) (by omega)
  have c3 := s122 (nat := nat) (d := d + 4) (w := (putM w x M)) (v := u) (l := 0) (h := 1) (by omega) (by omega) (by omega)
  rw [en187]
  unfold aSum
  by_cases q1 : 0 ≤ z ∧ z ≤ 9999
  case neg =>
    rw [B_neg q1] at c1
    rw [if_neg (fun e => q1 e.1)]
    refine ⟨M 7, ?_⟩
    rw [rset_self]
    simp (disch := first | omega | exact Nat.le_of_ble_eq_true rfl) only [e187_0, e187_1, e187_2, e187_5, e187_8, e187_11, e187_12, e187_13, e187_15, e187_18, e187_21, e187_22, e187_23, e187_24, e187_27, e187_30, e187_31, e187_32, e187_33, e187_36, e187_37, e187_41, e187_42, e187_45, e187_48, e187_49, e187_50, e187_51, e187_54, e187_56, e187_57, e187_58, e187_59, e187_60, e187_61, e187_63, e187_64, e187_65, e187_68, e187_70, e187_72, e187_73, e187_76, e187_77, e187_78, e187_81, e187_82, e187_83, e187_86, e187_89, e187_92, e187_95, e187_96, e187_99, e187_100, e187_101, e187_104, e187_107, e187_110, e187_113, e187_114, e187_115, e187_118, e187_121, J_add, J_sub, J_mul, J_neg, J_lt, J_le, J_eq, gArr_J, gAst_J, gSiz_J, gFld_o, gUpd_o0, gUpd_o1, gUpd_o2, gUpd_o3, gUpd_o4, gUpd_o5, gUpd_o6, gUpd_o7, gUpd_o8, gUpd_o9, gUpd_o10, gUpd_o11, gUpd_o12, gUpd_o13, gUpd_o14, gUpd_o15, gUpd_o16, gUpd_o17, gUpd_o18, gIsO_o, Option.bind_some, List.getElem?_cons_zero, List.getElem?_cons_succ, List.length_cons, List.length_nil, List.set_cons_zero, List.set_cons_succ, gCat_nil, gCat_int, gCat_ref, if_pos, if_neg, Option.toList_some, Option.toList_none, List.cons_append, List.nil_append, B_nar, J1_nar, J0_nar, if_true, if_false, rd_wr_same, rd_wr_ne, true_and, and_true, B_0, B_1, not_true_eq_false, not_false_eq_true, rdM0, rdM1, rdM2, rdM3, rdM4, rdM5, rdM6, rdM7, rdM8, rdM9, rdM10, rdM11, rdM12, rset_at, rset_ne, rset_rset, w0M, wZ1, wZ2, wZ3, wZ4, wZ5, wZ6, wZ7, wZ8, wZ9, wZ10, wZ11, wZ12, f7_0, f7_1, f7_2, f7_3, f7_4, f7_5, f7_6, c1]
  rw [B_pos q1] at c1
  by_cases q2 : 1 ≤ n ∧ n ≤ 60
  case neg =>
    rw [B_neg q2] at c2
    rw [if_neg (fun e => q2 e.2.1)]
    refine ⟨M 7, ?_⟩
    rw [rset_self]
    simp (disch := first | omega | exact Nat.le_of_ble_eq_true rfl) only [e187_0, e187_1, e187_2, e187_5, e187_8, e187_11, e187_12, e187_13, e187_15, e187_18, e187_21, e187_22, e187_23, e187_24, e187_27, e187_30, e187_31, e187_32, e187_33, e187_36, e187_37, e187_41, e187_42, e187_45, e187_48, e187_49, e187_50, e187_51, e187_54, e187_56, e187_57, e187_58, e187_59, e187_60, e187_61, e187_63, e187_64, e187_65, e187_68, e187_70, e187_72, e187_73, e187_76, e187_77, e187_78, e187_81, e187_82, e187_83, e187_86, e187_89, e187_92, e187_95, e187_96, e187_99, e187_100, e187_101, e187_104, e187_107, e187_110, e187_113, e187_114, e187_115, e187_118, e187_121, J_add, J_sub, J_mul, J_neg, J_lt, J_le, J_eq, gArr_J, gAst_J, gSiz_J, gFld_o, gUpd_o0, gUpd_o1, gUpd_o2, gUpd_o3, gUpd_o4, gUpd_o5, gUpd_o6, gUpd_o7, gUpd_o8, gUpd_o9, gUpd_o10, gUpd_o11, gUpd_o12, gUpd_o13, gUpd_o14, gUpd_o15, gUpd_o16, gUpd_o17, gUpd_o18, gIsO_o, Option.bind_some, List.getElem?_cons_zero, List.getElem?_cons_succ, List.length_cons, List.length_nil, List.set_cons_zero, List.set_cons_succ, gCat_nil, gCat_int, gCat_ref, if_pos, if_neg, Option.toList_some, Option.toList_none, List.cons_append, List.nil_append, B_nar, J1_nar, J0_nar, if_true, if_false, rd_wr_same, rd_wr_ne, true_and, and_true, B_0, B_1, not_true_eq_false, not_false_eq_true, rdM0, rdM1, rdM2, rdM3, rdM4, rdM5, rdM6, rdM7, rdM8, rdM9, rdM10, rdM11, rdM12, rset_at, rset_ne, rset_rset, w0M, wZ1, wZ2, wZ3, wZ4, wZ5, wZ6, wZ7, wZ8, wZ9, wZ10, wZ11, wZ12, f7_0, f7_1, f7_2, f7_3, f7_4, f7_5, f7_6, c1, c2]
  rw [B_pos q2] at c2
  by_cases q3 : 0 ≤ u ∧ u ≤ 1
  case neg =>
    rw [B_neg q3] at c3
    rw [if_neg (fun e => q3 e.2.2)]
    refine ⟨M 7, ?_⟩
    rw [rset_self]
    simp (disch := first | omega | exact Nat.le_of_ble_eq_true rfl) only [e187_0, e187_1, e187_2, e187_5, e187_8, e187_11, e187_12, e187_13, e187_15, e187_18, e187_21, e187_22, e187_23, e187_24, e187_27, e187_30, e187_31, e187_32, e187_33, e187_36, e187_37, e187_41, e187_42, e187_45, e187_48, e187_49, e187_50, e187_51, e187_54, e187_56, e187_57, e187_58, e187_59, e187_60, e187_61, e187_63, e187_64, e187_65, e187_68, e187_70, e187_72, e187_73, e187_76, e187_77, e187_78, e187_81, e187_82, e187_83, e187_86, e187_89, e187_92, e187_95, e187_96, e187_99, e187_100, e187_101, e187_104, e187_107, e187_110, e187_113, e187_114, e187_115, e187_118, e187_121, J_add, J_sub, J_mul, J_neg, J_lt, J_le, J_eq, gArr_J, gAst_J, gSiz_J, gFld_o, gUpd_o0, gUpd_o1, gUpd_o2, gUpd_o3, gUpd_o4, gUpd_o5, gUpd_o6, gUpd_o7, gUpd_o8, gUpd_o9, gUpd_o10, gUpd_o11, gUpd_o12, gUpd_o13, gUpd_o14, gUpd_o15, gUpd_o16, gUpd_o17, gUpd_o18, gIsO_o, Option.bind_some, List.getElem?_cons_zero, List.getElem?_cons_succ, List.length_cons, List.length_nil, List.set_cons_zero, List.set_cons_succ, gCat_nil, gCat_int, gCat_ref, if_pos, if_neg, Option.toList_some, Option.toList_none, List.cons_append, List.nil_append, B_nar, J1_nar, J0_nar, if_true, if_false, rd_wr_same, rd_wr_ne, true_and, and_true, B_0, B_1, not_true_eq_false, not_false_eq_true, rdM0, rdM1, rdM2, rdM3, rdM4, rdM5, rdM6, rdM7, rdM8, rdM9, rdM10, rdM11, rdM12, rset_at, rset_ne, rset_rset, w0M, wZ1, wZ2, wZ3, wZ4, wZ5, wZ6, wZ7, wZ8, wZ9, wZ10, wZ11, wZ12, f7_0, f7_1, f7_2, f7_3, f7_4, f7_5, f7_6, c1, c2, c3]
  rw [B_pos q3] at c3
  rw [if_pos ⟨q1, q2, q3⟩]
  have c4 := s164 (nat := nat) (d := d + 4) (w := w) (M := M) hx
  obtain ⟨f', h1⟩ := l187 (nat := nat) (d := d) (w := w) hx hL hK hR hS hH hg q1 q3 (N := n.toNat) (by omega) n.toNat 0 _ none none none none none none none none none (by omega) (mRow_cp (g := M 7) hK hR)
  rw [show ((n.toNat : Nat) : Int) = n from by omega, show ((0 : Nat) : Int) = 0 from rfl] at h1
  refine ⟨f', ?_⟩
  rw [← h1]
  simp (disch := first | omega | exact Nat.le_of_ble_eq_true rfl) only [e187_0, e187_1, e187_2, e187_5, e187_8, e187_11, e187_12, e187_13, e187_15, e187_18, e187_21, e187_22, e187_23, e187_24, e187_27, e187_30, e187_31, e187_32, e187_33, e187_36, e187_37, e187_41, e187_42, e187_45, e187_48, e187_49, e187_50, e187_51, e187_54, e187_56, e187_57, e187_58, e187_59, e187_60, e187_61, e187_63, e187_64, e187_65, e187_68, e187_70, e187_72, e187_73, e187_76, e187_77, e187_78, e187_81, e187_82, e187_83, e187_86, e187_89, e187_92, e187_95, e187_96, e187_99, e187_100, e187_101, e187_104, e187_107, e187_110, e187_113, e187_114, e187_115, e187_118, e187_121, J_add, J_sub, J_mul, J_neg, J_lt, J_le, J_eq, gArr_J, gAst_J, gSiz_J, gFld_o, gUpd_o0, gUpd_o1, gUpd_o2, gUpd_o3, gUpd_o4, gUpd_o5, gUpd_o6, gUpd_o7, gUpd_o8, gUpd_o9, gUpd_o10, gUpd_o11, gUpd_o12, gUpd_o13, gUpd_o14, gUpd_o15, gUpd_o16, gUpd_o17, gUpd_o18, gIsO_o, Option.bind_some, List.getElem?_cons_zero, List.getElem?_cons_succ, List.length_cons, List.length_nil, List.set_cons_zero, List.set_cons_succ, gCat_nil, gCat_int, gCat_ref, if_pos, if_neg, Option.toList_some, Option.toList_none, List.cons_append, List.nil_append, B_nar, J1_nar, J0_nar, if_true, if_false, rd_wr_same, rd_wr_ne, true_and, and_true, B_0, B_1, not_true_eq_false, not_false_eq_true, rdM0, rdM1, rdM2, rdM3, rdM4, rdM5, rdM6, rdM7, rdM8, rdM9, rdM10, rdM11, rdM12, rset_at, rset_ne, rset_rset, w0M, wZ1, wZ2, wZ3, wZ4, wZ5, wZ6, wZ7, wZ8, wZ9, wZ10, wZ11, wZ12, f7_0, f7_1, f7_2, f7_3, f7_4, f7_5, f7_6, c1, c2, c3, c4]
