theorem t142 {nat : gNat} {d : Nat} {w : gWd} {x : Nat} {M K : Lay} (hx : x + 12 < gSTR) (hL : mLaw K (M 5)) (hK : vK K) {r : Nat} (hr : r = 6 ∨ r = 7) {T : Lay} {f : Int → Int} (hf : mRow K T f) (hT : vS K T) {g : Int} (hg : 0 ≤ g ∧ g < K 0 1) : gC nat (d + 2) 142 [.ref x, .ref (x + r), .int (J g)] (putM w x (rset M r f)) = some (some (.int (B (K 1 (5 * g + 4) ≤ T 1 g))), putM w x (rset M r f)) :=
  s142 hx (by rw [mn5 hr]; exact hL) hK hr (by rw [rset_at]; exact hf) hT hg
theorem t143 {nat : gNat} {d : Nat} {w : gWd} {x : Nat} {M K : Lay} (hx : x + 12 < gSTR) (hL : mLaw K (M 5)) (hK : vK K) {r : Nat} (hr : r = 6 ∨ r = 7) {T : Lay} {f : Int → Int} (hf : mRow K T f) (hT : vS K T) : gC nat (d + 3) 143 [.ref x, .ref (x + r)] (putM w x (rset M r f)) = some (some (.int (J (cb K T))), putM w x (rset M r f)) :=
  s143 hx (by rw [mn5 hr]; exact hL) hK hr (by rw [rset_at]; exact hf) hT
theorem t149 {nat : gNat} {d : Nat} {w : gWd} {x : Nat} {M K : Lay} (hx : x + 12 < gSTR) (hL : mLaw K (M 5)) (hK : vK K) {r : Nat} (hr : r = 6 ∨ r = 7) {T : Lay} {f : Int → Int} (hf : mRow K T f) (hT : vS K T) (hh : T 0 0 < 1000000000) : ∃ f', gC nat (d + 5) 149 [.ref x, .ref (x + r)] (putM w x (rset M r f)) = some (none, putM w x (rset M r f')) ∧ mRow K (lives K T 1) f' := by
  obtain ⟨f', h1, h2⟩ := s149 (nat := nat) (d := d) (w := w) (M := rset M r f) hx (by rw [mn5 hr]; exact hL) hK hr (by rw [rset_at]; exact hf) hT hh
  rw [rset_rset] at h1
  exact ⟨f', h1, h2⟩
theorem t148 {nat : gNat} {d : Nat} {w : gWd} {x : Nat} {M K : Lay} (hx : x + 12 < gSTR) (hL : mLaw K (M 5)) (hK : vK K) {r : Nat} (hr : r = 6 ∨ r = 7) {T : Lay} {f : Int → Int} (hf : mRow K T f) (hT : vS K T) (hh : T 0 0 < 1000000000) {q : Prop} [Decidable q] : ∃ f', gC nat (d + 4) 148 [.ref x, .ref (x + r), .int (B q)] (putM w x (rset M r f)) = some (none, putM w x (rset M r f')) ∧ mRow K (live K T q) f' := by
  obtain ⟨f', h1, h2⟩ := s148 (nat := nat) (d := d) (w := w) (M := rset M r f) hx (by rw [mn5 hr]; exact hL) hK hr (by rw [rset_at]; exact hf) hT hh (q := q)
  rw [rset_rset] at h1
  exact ⟨f', h1, h2⟩

theorem y150 {nat : gNat} {d : Nat} {w : gWd} {x : Nat} {M K : Lay} (hx : x + 12 < gSTR) (hL : mLaw K (M 5)) (hK : vK K) {S : Lay} (hR : mRow K S (M 6)) (hS : vS K S) {g u : Int} (h_g : -2147483648 ≤ g ∧ g < 2147483648) (h_u : -2147483648 ≤ u ∧ u < 2147483648)  : gC nat (d + 4) 150 [.ref x, .int (J g), .int (J u)] (putM w x M) = some (some (.int (J (aGap K S g u))), (putM w x M)) := by
  obtain ⟨k0, k1, k2, k3, k4, kg, kd, kr⟩ := id hK
  obtain ⟨f0, f1, f2, f3, f4, fr, fg, fd⟩ := id hL
  have c1 := s138 (nat := nat) (d := d + 1) (w := w) hx hL hK h_g
  have c2 := s122 (nat := nat) (d := d + 2) (w := (putM w x M)) (v := u) (l := 0) (h := 6) (by omega) (by omega) (by omega)
  rw [en150]
  unfold aGap
  by_cases q1 : 0 ≤ g ∧ g ≤ K 0 1 - 1
  · rw [B_pos q1] at c1
    by_cases q2 : 0 ≤ u ∧ u ≤ 6
    · rw [B_pos q2] at c2
      rw [if_pos ⟨q1, q2⟩]
      by_cases q3 : u < 5
      · rw [if_pos q3]
        have c3 := s141 (nat := nat) (d := d + 2) (w := w) hx hL hK (g := g) (i := u) (by omega) (by omega)
        simp (disch := first | omega | exact Nat.le_of_ble_eq_true rfl) only [e150_0, e150_1, e150_2, e150_5, e150_8, e150_9, e150_10, e150_12, e150_15, e150_18, e150_19, e150_22, e150_23, e150_24, e150_27, e150_28, e150_29, e150_30, e150_33, e150_36, e150_37, e150_38, e150_41, e150_42, e150_45, e150_46, e150_47, e150_48, e150_49, e150_52, e150_53, e150_54, e150_57, e150_58, e150_61, e150_64, e150_65, e150_68, e150_69, J_add, J_sub, J_mul, J_neg, J_lt, J_le, J_eq, gArr_J, gAst_J, gSiz_J, gFld_o, gUpd_o0, gUpd_o1, gUpd_o2, gUpd_o3, gUpd_o4, gUpd_o5, gUpd_o6, gUpd_o7, gUpd_o8, gUpd_o9, gUpd_o10, gUpd_o11, gUpd_o12, gUpd_o13, gUpd_o14, gUpd_o15, gUpd_o16, gUpd_o17, gUpd_o18, gIsO_o, Option.bind_some, List.getElem?_cons_zero, List.getElem?_cons_succ, List.length_cons, List.length_nil, List.set_cons_zero, List.set_cons_succ, gCat_nil, gCat_int, gCat_ref, if_pos, if_neg, Option.toList_some, Option.toList_none, List.cons_append, List.nil_append, B_nar, J1_nar, J0_nar, if_true, if_false, rd_wr_same, rd_wr_ne, true_and, and_true, B_0, B_1, not_true_eq_false, not_false_eq_true, rdM0, rdM1, rdM2, rdM3, rdM4, rdM5, rdM6, rdM7, rdM8, rdM9, rdM10, rdM11, rdM12, rset_at, rset_ne, rset_rset, w0M, wZ1, wZ2, wZ3, wZ4, wZ5, wZ6, wZ7, wZ8, wZ9, wZ10, wZ11, wZ12, f7_0, f7_1, f7_2, f7_3, f7_4, f7_5, f7_6, c1, c2, c3]
      · rw [if_neg q3]
        have p1 := hR.2.1 g q1.1 (by omega)
        have c4 := s142 (nat := nat) (d := d + 1) (w := w) hx hL hK (r := 6) (Or.inl rfl) hR hS (g := g) (by omega)
        by_cases q4 : u = 5
        · rw [if_pos q4]
          simp (disch := first | omega | exact Nat.le_of_ble_eq_true rfl) only [e150_0, e150_1, e150_2, e150_5, e150_8, e150_9, e150_10, e150_12, e150_15, e150_18, e150_19, e150_22, e150_23, e150_24, e150_27, e150_28, e150_29, e150_30, e150_33, e150_36, e150_37, e150_38, e150_41, e150_42, e150_45, e150_46, e150_47, e150_48, e150_49, e150_52, e150_53, e150_54, e150_57, e150_58, e150_61, e150_64, e150_65, e150_68, e150_69, J_add, J_sub, J_mul, J_neg, J_lt, J_le, J_eq, gArr_J, gAst_J, gSiz_J, gFld_o, gUpd_o0, gUpd_o1, gUpd_o2, gUpd_o3, gUpd_o4, gUpd_o5, gUpd_o6, gUpd_o7, gUpd_o8, gUpd_o9, gUpd_o10, gUpd_o11, gUpd_o12, gUpd_o13, gUpd_o14, gUpd_o15, gUpd_o16, gUpd_o17, gUpd_o18, gIsO_o, Option.bind_some, List.getElem?_cons_zero, List.getElem?_cons_succ, List.length_cons, List.length_nil, List.set_cons_zero, List.set_cons_succ, gCat_nil, gCat_int, gCat_ref, if_pos, if_neg, Option.toList_some, Option.toList_none, List.cons_append, List.nil_append, B_nar, J1_nar, J0_nar, if_true, if_false, rd_wr_same, rd_wr_ne, true_and, and_true, B_0, B_1, not_true_eq_false, not_false_eq_true, rdM0, rdM1, rdM2, rdM3, rdM4, rdM5, rdM6, rdM7, rdM8, rdM9, rdM10, rdM11, rdM12, rset_at, rset_ne, rset_rset, w0M, wZ1, wZ2, wZ3, wZ4, wZ5, wZ6, wZ7, wZ8, wZ9, wZ10, wZ11, wZ12, f7_0, f7_1, f7_2, f7_3, f7_4, f7_5, f7_6, c1, c2, p1]
        · rw [if_neg q4]
          by_cases q5 : K 1 (5 * g + 4) ≤ S 1 g
          · rw [if_pos q5]
            rw [B_pos q5] at c4
            simp (disch := first | omega | exact Nat.le_of_ble_eq_true rfl) only [e150_0, e150_1, e150_2, e150_5, e150_8, e150_9, e150_10, e150_12, e150_15, e150_18, e150_19, e150_22, e150_23, e150_24, e150_27, e150_28, e150_29, e150_30, e150_33, e150_36, e150_37, e150_38, e150_41, e150_42, e150_45, e150_46, e150_47, e150_48, e150_49, e150_52, e150_53, e150_54, e150_57, e150_58, e150_61, e150_64, e150_65, e150_68, e150_69, J_add, J_sub, J_mul, J_neg, J_lt, J_le, J_eq, gArr_J, gAst_J, gSiz_J, gFld_o, gUpd_o0, gUpd_o1, gUpd_o2, gUpd_o3, gUpd_o4, gUpd_o5, gUpd_o6, gUpd_o7, gUpd_o8, gUpd_o9, gUpd_o10, gUpd_o11, gUpd_o12, gUpd_o13, gUpd_o14, gUpd_o15, gUpd_o16, gUpd_o17, gUpd_o18, gIsO_o, Option.bind_some, List.getElem?_cons_zero, List.getElem?_cons_succ, List.length_cons, List.length_nil, List.set_cons_zero, List.set_cons_succ, gCat_nil, gCat_int, gCat_ref, if_pos, if_neg, Option.toList_some, Option.toList_none, List.cons_append, List.nil_append, B_nar, J1_nar, J0_nar, if_true, if_false, rd_wr_same, rd_wr_ne, true_and, and_true, B_0, B_1, not_true_eq_false, not_false_eq_true, rdM0, rdM1, rdM2, rdM3, rdM4, rdM5, rdM6, rdM7, rdM8, rdM9, rdM10, rdM11, rdM12, rset_at, rset_ne, rset_rset, w0M, wZ1, wZ2, wZ3, wZ4, wZ5, wZ6, wZ7, wZ8, wZ9, wZ10, wZ11, wZ12, f7_0, f7_1, f7_2, f7_3, f7_4, f7_5, f7_6, c1, c2, c4]
          · rw [if_neg q5]
            rw [B_neg q5] at c4
            simp (disch := first | omega | exact Nat.le_of_ble_eq_true rfl) only [e150_0, e150_1, e150_2, e150_5, e150_8, e150_9, e150_10, e150_12, e150_15, e150_18, e150_19, e150_22, e150_23, e150_24, e150_27, e150_28, e150_29, e150_30, e150_33, e150_36, e150_37, e150_38, e150_41, e150_42, e150_45, e150_46, e150_47, e150_48, e150_49, e150_52, e150_53, e150_54, e150_57, e150_58, e150_61, e150_64, e150_65, e150_68, e150_69, J_add, J_sub, J_mul, J_neg, J_lt, J_le, J_eq, gArr_J, gAst_J, gSiz_J, gFld_o, gUpd_o0, gUpd_o1, gUpd_o2, gUpd_o3, gUpd_o4, gUpd_o5, gUpd_o6, gUpd_o7, gUpd_o8, gUpd_o9, gUpd_o10, gUpd_o11, gUpd_o12, gUpd_o13, gUpd_o14, gUpd_o15, gUpd_o16, gUpd_o17, gUpd_o18, gIsO_o, Option.bind_some, List.getElem?_cons_zero, List.getElem?_cons_succ, List.length_cons, List.length_nil, List.set_cons_zero, List.set_cons_succ, gCat_nil, gCat_int, gCat_ref, if_pos, if_neg, Option.toList_some, Option.toList_none, List.cons_append, List.nil_append, B_nar, J1_nar, J0_nar, if_true, if_false, rd_wr_same, rd_wr_ne, true_and, and_true, B_0, B_1, not_true_eq_false, not_false_eq_true, rdM0, rdM1, rdM2, rdM3, rdM4, rdM5, rdM6, rdM7, rdM8, rdM9, rdM10, rdM11, rdM12, rset_at, rset_ne, rset_rset, w0M, wZ1, wZ2, wZ3, wZ4, wZ5, wZ6, wZ7, wZ8, wZ9, wZ10, wZ11, wZ12, f7_0, f7_1, f7_2, f7_3, f7_4, f7_5, f7_6, c1, c2, c4]
    · rw [B_neg q2] at c2
      rw [if_neg (fun z => q2 z.2)]
      simp (disch := first | omega | exact Nat.le_of_ble_eq_true rfl) only [e150_0, e150_1, e150_2, e150_5, e150_8, e150_9, e150_10, e150_12, e150_15, e150_18, e150_19, e150_22, e150_23, e150_24, e150_27, e150_28, e150_29, e150_30, e150_33, e150_36, e150_37, e150_38, e150_41, e150_42, e150_45, e150_46, e150_47, e150_48, e150_49, e150_52, e150_53, e150_54, e150_57, e150_58, e150_61, e150_64, e150_65, e150_68, e150_69, J_add, J_sub, J_mul, J_neg, J_lt, J_le, J_eq, gArr_J, gAst_J, gSiz_J, gFld_o, gUpd_o0, gUpd_o1, gUpd_o2, gUpd_o3, gUpd_o4, gUpd_o5, gUpd_o6, gUpd_o7, gUpd_o8, gUpd_o9, gUpd_o10, gUpd_o11, gUpd_o12, gUpd_o13, gUpd_o14, gUpd_o15, gUpd_o16, gUpd_o17, gUpd_o18, gIsO_o, Option.bind_some, List.getElem?_cons_zero, List.getElem?_cons_succ, List.length_cons, List.length_nil, List.set_cons_zero, List.set_cons_succ, gCat_nil, gCat_int, gCat_ref, if_pos, if_neg, Option.toList_some, Option.toList_none, List.cons_append, List.nil_append, B_nar, J1_nar, J0_nar, if_true, if_false, rd_wr_same, rd_wr_ne, true_and, and_true, B_0, B_1, not_true_eq_false, not_false_eq_true, rdM0, rdM1, rdM2, rdM3, rdM4, rdM5, rdM6, rdM7, rdM8, rdM9, rdM10, rdM11, rdM12, rset_at, rset_ne, rset_rset, w0M, wZ1, wZ2, wZ3, wZ4, wZ5, wZ6, wZ7, wZ8, wZ9, wZ10, wZ11, wZ12, f7_0, f7_1, f7_2, f7_3, f7_4, f7_5, f7_6, c1, c2]
  · rw [B_neg q1] at c1
    rw [if_neg (fun z => q1 z.1)]
    simp (disch := first | omega | exact Nat.le_of_ble_eq_true rfl) only [e150_0, e150_1, e150_2, e150_5, e150_8, e150_9, e150_10, e150_12, e150_15, e150_18, e150_19, e150_22, e150_23, e150_24, e150_27, e150_28, e150_29, e150_30, e150_33, e150_36, e150_37, e150_38, e150_41, e150_42, e150_45, e150_46, e150_47, e150_48, e150_49, e150_52, e150_53, e150_54, e150_57, e150_58, e150_61, e150_64, e150_65, e150_68, e150_69, J_add, J_sub, J_mul, J_neg, J_lt, J_le, J_eq, gArr_J, gAst_J, gSiz_J, gFld_o, gUpd_o0, gUpd_o1, gUpd_o2, gUpd_o3, gUpd_o4, gUpd_o5, gUpd_o6, gUpd_o7, gUpd_o8, gUpd_o9, gUpd_o10, gUpd_o11, gUpd_o12, gUpd_o13, gUpd_o14, gUpd_o15, gUpd_o16, gUpd_o17, gUpd_o18, gIsO_o, Option.bind_some, List.getElem?_cons_zero, List.getElem?_cons_succ, List.length_cons, List.length_nil, List.set_cons_zero, List.set_cons_succ, gCat_nil, gCat_int, gCat_ref, if_pos, if_neg, Option.toList_some, Option.toList_none, List.cons_append, List.nil_append, B_nar, J1_nar, J0_nar, if_true, if_false, rd_wr_same, rd_wr_ne, true_and, and_true, B_0, B_1, not_true_eq_false, not_false_eq_true, rdM0, rdM1, rdM2, rdM3, rdM4, rdM5, rdM6, rdM7, rdM8, rdM9, rdM10, rdM11, rdM12, rset_at, rset_ne, rset_rset, w0M, wZ1, wZ2, wZ3, wZ4, wZ5, wZ6, wZ7, wZ8, wZ9, wZ10, wZ11, wZ12, f7_0, f7_1, f7_2, f7_3, f7_4, f7_5, f7_6, c1]

theorem y151 {nat : gNat} {d : Nat} {w : gWd} {x : Nat} {M K : Lay} (hx : x + 12 < gSTR) (hL : mLaw K (M 5)) (hK : vK K) {S : Lay} (hR : mRow K S (M 6)) (hS : vS K S) {y u : Int} (h_y : -2147483648 ≤ y ∧ y < 2147483648) (h_u : -2147483648 ≤ u ∧ u < 2147483648)  : gC nat (d + 4) 151 [.ref x, .int (J y), .int (J u)] (putM w x M) = some (some (.int (J (aSti K S y u))), (putM w x M)) := by
  obtain ⟨k0, k1, k2, k3, k4, kg, kd, kr⟩ := id hK
  obtain ⟨f0, f1, f2, f3, f4, fr, fg, fd⟩ := id hL
  have c1 := s139 (nat := nat) (d := d + 1) (w := w) hx hL hK h_y
  have c2 := s122 (nat := nat) (d := d + 2) (w := (putM w x M)) (v := u) (l := 0) (h := 3) (by omega) (by omega) (by omega)
  rw [en151]
  unfold aSti
  by_cases q1 : 0 ≤ y ∧ y ≤ K 0 2 - 1
  · rw [B_pos q1] at c1
    by_cases q2 : 0 ≤ u ∧ u ≤ 3
    · rw [B_pos q2] at c2
      rw [if_pos ⟨q1, q2⟩]
      obtain ⟨p1, p2⟩ := hR.2.2 y q1.1 (by omega)
      obtain ⟨p3, p4⟩ := fd y q1.1 (by omega)
      have hu : u = 0 ∨ u = 1 ∨ u = 2 ∨ u = 3 := by omega
      rcases hu with e | e | e | e
      · rw [if_neg (by omega), if_neg (by omega), e, Int.add_zero]
        rw [e] at c2
        simp (disch := first | omega | exact Nat.le_of_ble_eq_true rfl) only [e151_0, e151_1, e151_2, e151_5, e151_8, e151_9, e151_10, e151_11, e151_14, e151_17, e151_18, e151_21, e151_22, e151_25, e151_26, e151_29, e151_31, e151_32, e151_33, e151_34, e151_35, e151_36, e151_39, e151_40, e151_41, e151_44, e151_45, e151_48, e151_50, e151_51, e151_52, e151_53, e151_56, e151_57, e151_58, e151_61, e151_62, e151_65, e151_67, e151_68, e151_69, e151_70, e151_71, e151_72, e151_73, e151_74, e151_77, e151_78, e151_81, e151_83, e151_84, e151_85, e151_86, J_add, J_sub, J_mul, J_neg, J_lt, J_le, J_eq, gArr_J, gAst_J, gSiz_J, gFld_o, gUpd_o0, gUpd_o1, gUpd_o2, gUpd_o3, gUpd_o4, gUpd_o5, gUpd_o6, gUpd_o7, gUpd_o8, gUpd_o9, gUpd_o10, gUpd_o11, gUpd_o12, gUpd_o13, gUpd_o14, gUpd_o15, gUpd_o16, gUpd_o17, gUpd_o18, gIsO_o, Option.bind_some, List.getElem?_cons_zero, List.getElem?_cons_succ, List.length_cons, List.length_nil, List.set_cons_zero, List.set_cons_succ, gCat_nil, gCat_int, gCat_ref, if_pos, if_neg, Option.toList_some, Option.toList_none, List.cons_append, List.nil_append, B_nar, J1_nar, J0_nar, if_true, if_false, rd_wr_same, rd_wr_ne, true_and, and_true, B_0, B_1, not_true_eq_false, not_false_eq_true, rdM0, rdM1, rdM2, rdM3, rdM4, rdM5, rdM6, rdM7, rdM8, rdM9, rdM10, rdM11, rdM12, rset_at, rset_ne, rset_rset, w0M, wZ1, wZ2, wZ3, wZ4, wZ5, wZ6, wZ7, wZ8, wZ9, wZ10, wZ11, wZ12, f7_0, f7_1, f7_2, f7_3, f7_4, f7_5, f7_6, c1, c2, p3]
      · rw [if_pos e, e]
        rw [e] at c2
        simp (disch := first | omega | exact Nat.le_of_ble_eq_true rfl) only [e151_0, e151_1, e151_2, e151_5, e151_8, e151_9, e151_10, e151_11, e151_14, e151_17, e151_18, e151_21, e151_22, e151_25, e151_26, e151_29, e151_31, e151_32, e151_33, e151_34, e151_35, e151_36, e151_39, e151_40, e151_41, e151_44, e151_45, e151_48, e151_50, e151_51, e151_52, e151_53, e151_56, e151_57, e151_58, e151_61, e151_62, e151_65, e151_67, e151_68, e151_69, e151_70, e151_71, e151_72, e151_73, e151_74, e151_77, e151_78, e151_81, e151_83, e151_84, e151_85, e151_86, J_add, J_sub, J_mul, J_neg, J_lt, J_le, J_eq, gArr_J, gAst_J, gSiz_J, gFld_o, gUpd_o0, gUpd_o1, gUpd_o2, gUpd_o3, gUpd_o4, gUpd_o5, gUpd_o6, gUpd_o7, gUpd_o8, gUpd_o9, gUpd_o10, gUpd_o11, gUpd_o12, gUpd_o13, gUpd_o14, gUpd_o15, gUpd_o16, gUpd_o17, gUpd_o18, gIsO_o, Option.bind_some, List.getElem?_cons_zero, List.getElem?_cons_succ, List.length_cons, List.length_nil, List.set_cons_zero, List.set_cons_succ, gCat_nil, gCat_int, gCat_ref, if_pos, if_neg, Option.toList_some, Option.toList_none, List.cons_append, List.nil_append, B_nar, J1_nar, J0_nar, if_true, if_false, rd_wr_same, rd_wr_ne, true_and, and_true, B_0, B_1, not_true_eq_false, not_false_eq_true, rdM0, rdM1, rdM2, rdM3, rdM4, rdM5, rdM6, rdM7, rdM8, rdM9, rdM10, rdM11, rdM12, rset_at, rset_ne, rset_rset, w0M, wZ1, wZ2, wZ3, wZ4, wZ5, wZ6, wZ7, wZ8, wZ9, wZ10, wZ11, wZ12, f7_0, f7_1, f7_2, f7_3, f7_4, f7_5, f7_6, c1, c2, p1]
      · rw [if_neg (by omega), if_neg (by omega), e]
        rw [e] at c2
        simp (disch := first | omega | exact Nat.le_of_ble_eq_true rfl) only [e151_0, e151_1, e151_2, e151_5, e151_8, e151_9, e151_10, e151_11, e151_14, e151_17, e151_18, e151_21, e151_22, e151_25, e151_26, e151_29, e151_31, e151_32, e151_33, e151_34, e151_35, e151_36, e151_39, e151_40, e151_41, e151_44, e151_45, e151_48, e151_50, e151_51, e151_52, e151_53, e151_56, e151_57, e151_58, e151_61, e151_62, e151_65, e151_67, e151_68, e151_69, e151_70, e151_71, e151_72, e151_73, e151_74, e151_77, e151_78, e151_81, e151_83, e151_84, e151_85, e151_86, J_add, J_sub, J_mul, J_neg, J_lt, J_le, J_eq, gArr_J, gAst_J, gSiz_J, gFld_o, gUpd_o0, gUpd_o1, gUpd_o2, gUpd_o3, gUpd_o4, gUpd_o5, gUpd_o6, gUpd_o7, gUpd_o8, gUpd_o9, gUpd_o10, gUpd_o11, gUpd_o12, gUpd_o13, gUpd_o14, gUpd_o15, gUpd_o16, gUpd_o17, gUpd_o18, gIsO_o, Option.bind_some, List.getElem?_cons_zero, List.getElem?_cons_succ, List.length_cons, List.length_nil, List.set_cons_zero, List.set_cons_succ, gCat_nil, gCat_int, gCat_ref, if_pos, if_neg, Option.toList_some, Option.toList_none, List.cons_append, List.nil_append, B_nar, J1_nar, J0_nar, if_true, if_false, rd_wr_same, rd_wr_ne, true_and, and_true, B_0, B_1, not_true_eq_false, not_false_eq_true, rdM0, rdM1, rdM2, rdM3, rdM4, rdM5, rdM6, rdM7, rdM8, rdM9, rdM10, rdM11, rdM12, rset_at, rset_ne, rset_rset, w0M, wZ1, wZ2, wZ3, wZ4, wZ5, wZ6, wZ7, wZ8, wZ9, wZ10, wZ11, wZ12, f7_0, f7_1, f7_2, f7_3, f7_4, f7_5, f7_6, c1, c2, p4]
      · rw [if_neg (by omega), if_pos e, e]
        rw [e] at c2
        simp (disch := first | omega | exact Nat.le_of_ble_eq_true rfl) only [e151_0, e151_1, e151_2, e151_5, e151_8, e151_9, e151_10, e151_11, e151_14, e151_17, e151_18, e151_21, e151_22, e151_25, e151_26, e151_29, e151_31, e151_32, e151_33, e151_34, e151_35, e151_36, e151_39, e151_40, e151_41, e151_44, e151_45, e151_48, e151_50, e151_51, e151_52, e151_53, e151_56, e151_57, e151_58, e151_61, e151_62, e151_65, e151_67, e151_68, e151_69, e151_70, e151_71, e151_72, e151_73, e151_74, e151_77, e151_78, e151_81, e151_83, e151_84, e151_85, e151_86, J_add, J_sub, J_mul, J_neg, J_lt, J_le, J_eq, gArr_J, gAst_J, gSiz_J, gFld_o, gUpd_o0, gUpd_o1, gUpd_o2, gUpd_o3, gUpd_o4, gUpd_o5, gUpd_o6, gUpd_o7, gUpd_o8, gUpd_o9, gUpd_o10, gUpd_o11, gUpd_o12, gUpd_o13, gUpd_o14, gUpd_o15, gUpd_o16, gUpd_o17, gUpd_o18, gIsO_o, Option.bind_some, List.getElem?_cons_zero, List.getElem?_cons_succ, List.length_cons, List.length_nil, List.set_cons_zero, List.set_cons_succ, gCat_nil, gCat_int, gCat_ref, if_pos, if_neg, Option.toList_some, Option.toList_none, List.cons_append, List.nil_append, B_nar, J1_nar, J0_nar, if_true, if_false, rd_wr_same, rd_wr_ne, true_and, and_true, B_0, B_1, not_true_eq_false, not_false_eq_true, rdM0, rdM1, rdM2, rdM3, rdM4, rdM5, rdM6, rdM7, rdM8, rdM9, rdM10, rdM11, rdM12, rset_at, rset_ne, rset_rset, w0M, wZ1, wZ2, wZ3, wZ4, wZ5, wZ6, wZ7, wZ8, wZ9, wZ10, wZ11, wZ12, f7_0, f7_1, f7_2, f7_3, f7_4, f7_5, f7_6, c1, c2, p2]
    · rw [B_neg q2] at c2
      rw [if_neg (fun z => q2 z.2)]
      simp (disch := first | omega | exact Nat.le_of_ble_eq_true rfl) only [e151_0, e151_1, e151_2, e151_5, e151_8, e151_9, e151_10, e151_11, e151_14, e151_17, e151_18, e151_21, e151_22, e151_25, e151_26, e151_29, e151_31, e151_32, e151_33, e151_34, e151_35, e151_36, e151_39, e151_40, e151_41, e151_44, e151_45, e151_48, e151_50, e151_51, e151_52, e151_53, e151_56, e151_57, e151_58, e151_61, e151_62, e151_65, e151_67, e151_68, e151_69, e151_70, e151_71, e151_72, e151_73, e151_74, e151_77, e151_78, e151_81, e151_83, e151_84, e151_85, e151_86, J_add, J_sub, J_mul, J_neg, J_lt, J_le, J_eq, gArr_J, gAst_J, gSiz_J, gFld_o, gUpd_o0, gUpd_o1, gUpd_o2, gUpd_o3, gUpd_o4, gUpd_o5, gUpd_o6, gUpd_o7, gUpd_o8, gUpd_o9, gUpd_o10, gUpd_o11, gUpd_o12, gUpd_o13, gUpd_o14, gUpd_o15, gUpd_o16, gUpd_o17, gUpd_o18, gIsO_o, Option.bind_some, List.getElem?_cons_zero, List.getElem?_cons_succ, List.length_cons, List.length_nil, List.set_cons_zero, List.set_cons_succ, gCat_nil, gCat_int, gCat_ref, if_pos, if_neg, Option.toList_some, Option.toList_none, List.cons_append, List.nil_append, B_nar, J1_nar, J0_nar, if_true, if_false, rd_wr_same, rd_wr_ne, true_and, and_true, B_0, B_1, not_true_eq_false, not_false_eq_true, rdM0, rdM1, rdM2, rdM3, rdM4, rdM5, rdM6, rdM7, rdM8, rdM9, rdM10, rdM11, rdM12, rset_at, rset_ne, rset_rset, w0M, wZ1, wZ2, wZ3, wZ4, wZ5, wZ6, wZ7, wZ8, wZ9, wZ10, wZ11, wZ12, f7_0, f7_1, f7_2, f7_3, f7_4, f7_5, f7_6, c1, c2]
  · rw [B_neg q1] at c1
    rw [if_neg (fun z => q1 z.1)]
    simp (disch := first | omega | exact Nat.le_of_ble_eq_true rfl) only [e151_0, e151_1, e151_2, e151_5, e151_8, e151_9, e151_10, e151_11, e151_14, e151_17, e151_18, e151_21, e151_22, e151_25, e151_26, e151_29, e151_31, e151_32, e151_33, e151_34, e151_35, e151_36, e151_39, e151_40, e151_41, e151_44, e151_45, e151_48, e151_50, e151_51, e151_52, e151_53, e151_56, e151_57, e151_58, e151_61, e151_62, e151_65, e151_67, e151_68, e151_69, e151_70, e151_71, e151_72, e151_73, e151_74, e151_77, e151_78, e151_81, e151_83, e151_84, e151_85, e151_86, J_add, J_sub, J_mul, J_neg, J_lt, J_le, J_eq, gArr_J, gAst_J, gSiz_J, gFld_o, gUpd_o0, gUpd_o1, gUpd_o2, gUpd_o3, gUpd_o4, gUpd_o5, gUpd_o6, gUpd_o7, gUpd_o8, gUpd_o9, gUpd_o10, gUpd_o11, gUpd_o12, gUpd_o13, gUpd_o14, gUpd_o15, gUpd_o16, gUpd_o17, gUpd_o18, gIsO_o, Option.bind_some, List.getElem?_cons_zero, List.getElem?_cons_succ, List.length_cons, List.length_nil, List.set_cons_zero, List.set_cons_succ, gCat_nil, gCat_int, gCat_ref, if_pos, if_neg, Option.toList_some, Option.toList_none, List.cons_append, List.nil_append, B_nar, J1_nar, J0_nar, if_true, if_false, rd_wr_same, rd_wr_ne, true_and, and_true, B_0, B_1, not_true_eq_false, not_false_eq_true, rdM0, rdM1, rdM2, rdM3, rdM4, rdM5, rdM6, rdM7, rdM8, rdM9, rdM10, rdM11, rdM12, rset_at, rset_ne, rset_rset, w0M, wZ1, wZ2, wZ3, wZ4, wZ5, wZ6, wZ7, wZ8, wZ9, wZ10, wZ11, wZ12, f7_0, f7_1, f7_2, f7_3, f7_4, f7_5, f7_6, c1]

theorem y152 {nat : gNat} {d : Nat} {w : gWd} {x : Nat} {M K : Lay} (hx : x + 12 < gSTR) (hL : mLaw K (M 5)) (hK : vK K) {S : Lay} (hR : mRow K S (M 6)) (hS : vS K S) (hH : 0 ≤ S 0 0 ∧ S 0 0 < 1000000) {n u : Int} (h_n : -2147483648 ≤ n ∧ n < 2147483648) (h_u : -2147483648 ≤ u ∧ u < 2147483648)  : gC nat (d + 4) 152 [.ref x, .int (J n), .int (J u)] (putM w x M) = some (some (.int (J (aSky K S n u))), (putM w x M)) := by
  obtain ⟨k0, k1, k2, k3, k4, kg, kd, kr⟩ := id hK
  obtain ⟨f0, f1, f2, f3, f4, fr, fg, fd⟩ := id hL
  have c1 := s122 (nat := nat) (d := d + 2) (w := (putM w x M)) (v := n) (l := 0) (h := 99) (by omega) (by omega) (by omega)
  have c2 := s122 (nat := nat) (d := d + 2) (w := (putM w x M)) (v := u) (l := 0) (h := 1) (by omega) (by omega) (by omega)
  rw [en152]
  unfold aSky
  have p0 := hR.1
  by_cases q1 : 0 ≤ n ∧ n ≤ 99
  · rw [B_pos q1] at c1
    by_cases q2 : 0 ≤ u ∧ u ≤ 1
    · rw [B_pos q2] at c2
      rw [if_pos ⟨q1, q2⟩]
      have c3 := s144 (nat := nat) (d := d + 2) (w := w) hx hL hK (h := S 0 0 + n) (by omega)
      have c4 := s145 (nat := nat) (d := d + 2) (w := w) hx hL hK (h := S 0 0 + n) (by omega)
      by_cases q3 : u = 0
      · rw [if_pos q3]
        by_cases q4 : (S 0 0 + n) % 24 < K 0 3
        · rw [if_pos q4]
          rw [B_pos q4] at c3
          simp (disch := first | omega | exact Nat.le_of_ble_eq_true rfl) only [e152_0, e152_1, e152_2, e152_4, e152_7, e152_10, e152_11, e152_12, e152_13, e152_16, e152_19, e152_20, e152_21, e152_22, e152_25, e152_26, e152_27, e152_30, e152_31, e152_32, e152_33, e152_34, e152_37, e152_40, e152_43, e152_44, e152_45, e152_48, e152_49, e152_50, e152_51, e152_52, e152_55, e152_58, e152_59, e152_62, e152_63, J_add, J_sub, J_mul, J_neg, J_lt, J_le, J_eq, gArr_J, gAst_J, gSiz_J, gFld_o, gUpd_o0, gUpd_o1, gUpd_o2, gUpd_o3, gUpd_o4, gUpd_o5, gUpd_o6, gUpd_o7, gUpd_o8, gUpd_o9, gUpd_o10, gUpd_o11, gUpd_o12, gUpd_o13, gUpd_o14, gUpd_o15, gUpd_o16, gUpd_o17, gUpd_o18, gIsO_o, Option.bind_some, List.getElem?_cons_zero, List.getElem?_cons_succ, List.length_cons, List.length_nil, List.set_cons_zero, List.set_cons_succ, gCat_nil, gCat_int, gCat_ref, if_pos, if_neg, Option.toList_some, Option.toList_none, List.cons_append, List.nil_append, B_nar, J1_nar, J0_nar, if_true, if_false, rd_wr_same, rd_wr_ne, true_and, and_true, B_0, B_1, not_true_eq_false, not_false_eq_true, rdM0, rdM1, rdM2, rdM3, rdM4, rdM5, rdM6, rdM7, rdM8, rdM9, rdM10, rdM11, rdM12, rset_at, rset_ne, rset_rset, w0M, wZ1, wZ2, wZ3, wZ4, wZ5, wZ6, wZ7, wZ8, wZ9, wZ10, wZ11, wZ12, f7_0, f7_1, f7_2, f7_3, f7_4, f7_5, f7_6, c1, c2, c3, p0]
        · rw [if_neg q4]
          rw [B_neg q4] at c3
          simp (disch := first | omega | exact Nat.le_of_ble_eq_true rfl) only [e152_0, e152_1, e152_2, e152_4, e152_7, e152_10, e152_11, e152_12, e152_13, e152_16, e152_19, e152_20, e152_21, e152_22, e152_25, e152_26, e152_27, e152_30, e152_31, e152_32, e152_33, e152_34, e152_37, e152_40, e152_43, e152_44, e152_45, e152_48, e152_49, e152_50, e152_51, e152_52, e152_55, e152_58, e152_59, e152_62, e152_63, J_add, J_sub, J_mul, J_neg, J_lt, J_le, J_eq, gArr_J, gAst_J, gSiz_J, gFld_o, gUpd_o0, gUpd_o1, gUpd_o2, gUpd_o3, gUpd_o4, gUpd_o5, gUpd_o6, gUpd_o7, gUpd_o8, gUpd_o9, gUpd_o10, gUpd_o11, gUpd_o12, gUpd_o13, gUpd_o14, gUpd_o15, gUpd_o16, gUpd_o17, gUpd_o18, gIsO_o, Option.bind_some, List.getElem?_cons_zero, List.getElem?_cons_succ, List.length_cons, List.length_nil, List.set_cons_zero, List.set_cons_succ, gCat_nil, gCat_int, gCat_ref, if_pos, if_neg, Option.toList_some, Option.toList_none, List.cons_append, List.nil_append, B_nar, J1_nar, J0_nar, if_true, if_false, rd_wr_same, rd_wr_ne, true_and, and_true, B_0, B_1, not_true_eq_false, not_false_eq_true, rdM0, rdM1, rdM2, rdM3, rdM4, rdM5, rdM6, rdM7, rdM8, rdM9, rdM10, rdM11, rdM12, rset_at, rset_ne, rset_rset, w0M, wZ1, wZ2, wZ3, wZ4, wZ5, wZ6, wZ7, wZ8, wZ9, wZ10, wZ11, wZ12, f7_0, f7_1, f7_2, f7_3, f7_4, f7_5, f7_6, c1, c2, c3, p0]
      · rw [if_neg q3]
        by_cases q4 : 0 < K 0 4 ∧ K 3 ((S 0 0 + n) % K 0 4) = 1
        · rw [if_pos q4]
          rw [B_pos q4] at c4
          simp (disch := first | omega | exact Nat.le_of_ble_eq_true rfl) only [e152_0, e152_1, e152_2, e152_4, e152_7, e152_10, e152_11, e152_12, e152_13, e152_16, e152_19, e152_20, e152_21, e152_22, e152_25, e152_26, e152_27, e152_30, e152_31, e152_32, e152_33, e152_34, e152_37, e152_40, e152_43, e152_44, e152_45, e152_48, e152_49, e152_50, e152_51, e152_52, e152_55, e152_58, e152_59, e152_62, e152_63, J_add, J_sub, J_mul, J_neg, J_lt, J_le, J_eq, gArr_J, gAst_J, gSiz_J, gFld_o, gUpd_o0, gUpd_o1, gUpd_o2, gUpd_o3, gUpd_o4, gUpd_o5, gUpd_o6, gUpd_o7, gUpd_o8, gUpd_o9, gUpd_o10, gUpd_o11, gUpd_o12, gUpd_o13, gUpd_o14, gUpd_o15, gUpd_o16, gUpd_o17, gUpd_o18, gIsO_o, Option.bind_some, List.getElem?_cons_zero, List.getElem?_cons_succ, List.length_cons, List.length_nil, List.set_cons_zero, List.set_cons_succ, gCat_nil, gCat_int, gCat_ref, if_pos, if_neg, Option.toList_some, Option.toList_none, List.cons_append, List.nil_append, B_nar, J1_nar, J0_nar, if_true, if_false, rd_wr_same, rd_wr_ne, true_and, and_true, B_0, B_1, not_true_eq_false, not_false_eq_true, rdM0, rdM1, rdM2, rdM3, rdM4, rdM5, rdM6, rdM7, rdM8, rdM9, rdM10, rdM11, rdM12, rset_at, rset_ne, rset_rset, w0M, wZ1, wZ2, wZ3, wZ4, wZ5, wZ6, wZ7, wZ8, wZ9, wZ10, wZ11, wZ12, f7_0, f7_1, f7_2, f7_3, f7_4, f7_5, f7_6, c1, c2, c4, p0]
        · rw [if_neg q4]
          rw [B_neg q4] at c4
          simp (disch := first | omega | exact Nat.le_of_ble_eq_true rfl) only [e152_0, e152_1, e152_2, e152_4, e152_7, e152_10, e152_11, e152_12, e152_13, e152_16, e152_19, e152_20, e152_21, e152_22, e152_25, e152_26, e152_27, e152_30, e152_31, e152_32, e152_33, e152_34, e152_37, e152_40, e152_43, e152_44, e152_45, e152_48, e152_49, e152_50, e152_51, e152_52, e152_55, e152_58, e152_59, e152_62, e152_63, J_add, J_sub, J_mul, J_neg, J_lt, J_le, J_eq, gArr_J, gAst_J, gSiz_J, gFld_o, gUpd_o0, gUpd_o1, gUpd_o2, gUpd_o3, gUpd_o4, gUpd_o5, gUpd_o6, gUpd_o7, gUpd_o8, gUpd_o9, gUpd_o10, gUpd_o11, gUpd_o12, gUpd_o13, gUpd_o14, gUpd_o15, gUpd_o16, gUpd_o17, gUpd_o18, gIsO_o, Option.bind_some, List.getElem?_cons_zero, List.getElem?_cons_succ, List.length_cons, List.length_nil, List.set_cons_zero, List.set_cons_succ, gCat_nil, gCat_int, gCat_ref, if_pos, if_neg, Option.toList_some, Option.toList_none, List.cons_append, List.nil_append, B_nar, J1_nar, J0_nar, if_true, if_false, rd_wr_same, rd_wr_ne, true_and, and_true, B_0, B_1, not_true_eq_false, not_false_eq_true, rdM0, rdM1, rdM2, rdM3, rdM4, rdM5, rdM6, rdM7, rdM8, rdM9, rdM10, rdM11, rdM12, rset_at, rset_ne, rset_rset, w0M, wZ1, wZ2, wZ3, wZ4, wZ5, wZ6, wZ7, wZ8, wZ9, wZ10, wZ11, wZ12, f7_0, f7_1, f7_2, f7_3, f7_4, f7_5, f7_6, c1, c2, c4, p0]
    · rw [B_neg q2] at c2
      rw [if_neg (fun z => q2 z.2)]
      simp (disch := first | omega | exact Nat.le_of_ble_eq_true rfl) only [e152_0, e152_1, e152_2, e152_4, e152_7, e152_10, e152_11, e152_12, e152_13, e152_16, e152_19, e152_20, e152_21, e152_22, e152_25, e152_26, e152_27, e152_30, e152_31, e152_32, e152_33, e152_34, e152_37, e152_40, e152_43, e152_44, e152_45, e152_48, e152_49, e152_50, e152_51, e152_52, e152_55, e152_58, e152_59, e152_62, e152_63, J_add, J_sub, J_mul, J_neg, J_lt, J_le, J_eq, gArr_J, gAst_J, gSiz_J, gFld_o, gUpd_o0, gUpd_o1, gUpd_o2, gUpd_o3, gUpd_o4, gUpd_o5, gUpd_o6, gUpd_o7, gUpd_o8, gUpd_o9, gUpd_o10, gUpd_o11, gUpd_o12, gUpd_o13, gUpd_o14, gUpd_o15, gUpd_o16, gUpd_o17, gUpd_o18, gIsO_o, Option.bind_some, List.getElem?_cons_zero, List.getElem?_cons_succ, List.length_cons, List.length_nil, List.set_cons_zero, List.set_cons_succ, gCat_nil, gCat_int, gCat_ref, if_pos, if_neg, Option.toList_some, Option.toList_none, List.cons_append, List.nil_append, B_nar, J1_nar, J0_nar, if_true, if_false, rd_wr_same, rd_wr_ne, true_and, and_true, B_0, B_1, not_true_eq_false, not_false_eq_true, rdM0, rdM1, rdM2, rdM3, rdM4, rdM5, rdM6, rdM7, rdM8, rdM9, rdM10, rdM11, rdM12, rset_at, rset_ne, rset_rset, w0M, wZ1, wZ2, wZ3, wZ4, wZ5, wZ6, wZ7, wZ8, wZ9, wZ10, wZ11, wZ12, f7_0, f7_1, f7_2, f7_3, f7_4, f7_5, f7_6, c1, c2]
  · rw [B_neg q1] at c1
    rw [if_neg (fun z => q1 z.1)]
    simp (disch := first | omega | exact Nat.le_of_ble_eq_true rfl) only [e152_0, e152_1, e152_2, e152_4, e152_7, e152_10, e152_11, e152_12, e152_13, e152_16, e152_19, e152_20, e152_21, e152_22, e152_25, e152_26, e152_27, e152_30, e152_31, e152_32, e152_33, e152_34, e152_37, e152_40, e152_43, e152_44, e152_45, e152_48, e152_49, e152_50, e152_51, e152_52, e152_55, e152_58, e152_59, e152_62, e152_63, J_add, J_sub, J_mul, J_neg, J_lt, J_le, J_eq, gArr_J, gAst_J, gSiz_J, gFld_o, gUpd_o0, gUpd_o1, gUpd_o2, gUpd_o3, gUpd_o4, gUpd_o5, gUpd_o6, gUpd_o7, gUpd_o8, gUpd_o9, gUpd_o10, gUpd_o11, gUpd_o12, gUpd_o13, gUpd_o14, gUpd_o15, gUpd_o16, gUpd_o17, gUpd_o18, gIsO_o, Option.bind_some, List.getElem?_cons_zero, List.getElem?_cons_succ, List.length_cons, List.length_nil, List.set_cons_zero, List.set_cons_succ, gCat_nil, gCat_int, gCat_ref, if_pos, if_neg, Option.toList_some, Option.toList_none, List.cons_append, List.nil_append, B_nar, J1_nar, J0_nar, if_true, if_false, rd_wr_same, rd_wr_ne, true_and, and_true, B_0, B_1, not_true_eq_false, not_false_eq_true, rdM0, rdM1, rdM2, rdM3, rdM4, rdM5, rdM6, rdM7, rdM8, rdM9, rdM10, rdM11, rdM12, rset_at, rset_ne, rset_rset, w0M, wZ1, wZ2, wZ3, wZ4, wZ5, wZ6, wZ7, wZ8, wZ9, wZ10, wZ11, wZ12, f7_0, f7_1, f7_2, f7_3, f7_4, f7_5, f7_6, c1]

theorem l161 {nat : gNat} {d : Nat} {w : gWd} {x : Nat} {M K : Lay} (hx : x + 12 < gSTR) (hL : mLaw K (M 5)) (hK : vK K) {S : Lay} (hS : vS K S) (hH : 0 ≤ S 0 0 ∧ S 0 0 < 1000000) {N : Nat} (hN : N ≤ 24) : ∀ (k n : Nat) (f : Int → Int), n + k = N → mRow K (lives K S n) f → ∃ f', gX (gC nat (d + 5)) nat 161 18 [some (.ref x), some (.int (J N)), some (.int (J n))] [] [] (putM w x (rset M 6 f)) = some (some (.int (J (S 0 0 + N))), putM w x (rset M 6 f')) ∧ mRow K (lives K S N) f' := by
  intro k
  induction k with
  | zero =>
    intro n f hn hf
    rw [Nat.add_zero] at hn
    subst hn
    have p0 := hf.1
    rw [lives_h] at p0
    refine ⟨f, ?_, hf⟩
    rw [e161_18]
    simp (disch := first | omega | exact Nat.le_of_ble_eq_true rfl) only [e161_0, e161_1, e161_2, e161_4, e161_7, e161_10, e161_11, e161_12, e161_13, e161_16, e161_17, e161_19, e161_20, e161_23, e161_24, e161_25, e161_28, e161_31, e161_34, e161_37, e161_38, e161_41, e161_42, e161_43, J_add, J_sub, J_mul, J_neg, J_lt, J_le, J_eq, gArr_J, gAst_J, gSiz_J, gFld_o, gUpd_o0, gUpd_o1, gUpd_o2, gUpd_o3, gUpd_o4, gUpd_o5, gUpd_o6, gUpd_o7, gUpd_o8, gUpd_o9, gUpd_o10, gUpd_o11, gUpd_o12, gUpd_o13, gUpd_o14, gUpd_o15, gUpd_o16, gUpd_o17, gUpd_o18, gIsO_o, Option.bind_some, List.getElem?_cons_zero, List.getElem?_cons_succ, List.length_cons, List.length_nil, List.set_cons_zero, List.set_cons_succ, gCat_nil, gCat_int, gCat_ref, if_pos, if_neg, Option.toList_some, Option.toList_none, List.cons_append, List.nil_append, B_nar, J1_nar, J0_nar, if_true, if_false, rd_wr_same, rd_wr_ne, true_and, and_true, B_0, B_1, not_true_eq_false, not_false_eq_true, rdM0, rdM1, rdM2, rdM3, rdM4, rdM5, rdM6, rdM7, rdM8, rdM9, rdM10, rdM11, rdM12, rset_at, rset_ne, rset_rset, w0M, wZ1, wZ2, wZ3, wZ4, wZ5, wZ6, wZ7, wZ8, wZ9, wZ10, wZ11, wZ12, f7_0, f7_1, f7_2, f7_3, f7_4, f7_5, f7_6, p0]
  | succ k ih =>
    intro n f hn hf
    have hh := lives_h K S n
    obtain ⟨f1, g1, g2⟩ := t149 (nat := nat) (d := d) (w := w) (M := M) hx hL hK (r := 6) (Or.inl rfl) hf (vS_lives hK hS n) (by omega)
    rw [show ((6 : Nat) : Int) = 6 from rfl] at g1
    obtain ⟨f', h1, h2⟩ := ih (n + 1) f1 (by omega) g2
    rw [show ((n + 1 : Nat) : Int) = (n : Int) + 1 from rfl] at h1
    refine ⟨f', ?_, h2⟩
    rw [e161_18]
    simp (disch := first | omega | exact Nat.le_of_ble_eq_true rfl) only [e161_0, e161_1, e161_2, e161_4, e161_7, e161_10, e161_11, e161_12, e161_13, e161_16, e161_17, e161_19, e161_20, e161_23, e161_24, e161_25, e161_28, e161_31, e161_34, e161_37, e161_38, e161_41, e161_42, e161_43, J_add, J_sub, J_mul, J_neg, J_lt, J_le, J_eq, gArr_J, gAst_J, gSiz_J, gFld_o, gUpd_o0, gUpd_o1, gUpd_o2, gUpd_o3, gUpd_o4, gUpd_o5, gUpd_o6, gUpd_o7, gUpd_o8, gUpd_o9, gUpd_o10, gUpd_o11, gUpd_o12, gUpd_o13, gUpd_o14, gUpd_o15, gUpd_o16, gUpd_o17, gUpd_o18, gIsO_o, Option.bind_some, List.getElem?_cons_zero, List.getElem?_cons_succ, List.length_cons, List.length_nil, List.set_cons_zero, List.set_cons_succ, gCat_nil, gCat_int, gCat_ref, if_pos, if_neg, Option.toList_some, Option.toList_none, List.cons_append, List.nil_append, B_nar, J1_nar, J0_nar, if_true, if_false, rd_wr_same, rd_wr_ne, true_and, and_true, B_0, B_1, not_true_eq_false, not_false_eq_true, rdM0, rdM1, rdM2, rdM3, rdM4, rdM5, rdM6, rdM7, rdM8, rdM9, rdM10, rdM11, rdM12, rset_at, rset_ne, rset_rset, w0M, wZ1, wZ2, wZ3, wZ4, wZ5, wZ6, wZ7, wZ8, wZ9, wZ10, wZ11, wZ12, f7_0, f7_1, f7_2, f7_3, f7_4, f7_5, f7_6, g1, h1]


theorem l165 {nat : gNat} {d : Nat} {w : gWd} {x : Nat} {M K : Lay} (hx : x + 12 < gSTR) (hL : mLaw K (M 5)) (hK : vK K) {S : Lay} (hS : vS K S) (hH : 0 ≤ S 0 0 ∧ S 0 0 < 1000000) {g : Int} (hg : 0 ≤ g ∧ g < K 0 1) : ∀ (k n : Nat) (f : Int → Int), n + k = 60 → mRow K (lives K S n) f → ∃ f', gX (gC nat (d + 5)) nat 165 16 [some (.ref x), some (.int (J g)), some (.int (J n))] [] [] (putM w x (rset M 7 f)) = some (some (.int (J (cfr K S g n k).1)), putM w x (rset M 7 f')) := by
  intro k
  induction k with
  | zero =>
    intro n f hn hf
    rw [Nat.add_zero] at hn
    subst hn
    have c1 := t142 (nat := nat) (d := d + 3) (w := w) (M := M) hx hL hK (r := 7) (Or.inr rfl) hf (vS_lives hK hS 60) hg
    rw [show ((7 : Nat) : Int) = 7 from rfl] at c1
    have hh := lives_h K S 60
    obtain ⟨f1, g1, g2⟩ := t149 (nat := nat) (d := d) (w := w) (M := M) hx hL hK (r := 7) (Or.inr rfl) hf (vS_lives hK hS 60) (by omega)
    rw [show ((7 : Nat) : Int) = 7 from rfl] at g1
    rw [e165_16, cfr]
    by_cases q : K 1 (5 * g + 4) ≤ (lives K S 60) 1 g
    · rw [if_pos q]
      rw [B_pos q] at c1
      refine ⟨f, ?_⟩
      simp (disch := first | omega | exact Nat.le_of_ble_eq_true rfl) only [e165_0, e165_1, e165_2, e165_5, e165_8, e165_9, e165_10, e165_11, e165_14, e165_15, e165_17, e165_19, e165_22, e165_23, e165_24, e165_27, e165_28, e165_31, e165_34, e165_35, e165_36, e165_37, e165_38, e165_41, e165_44, e165_47, e165_50, e165_52, J_add, J_sub, J_mul, J_neg, J_lt, J_le, J_eq, gArr_J, gAst_J, gSiz_J, gFld_o, gUpd_o0, gUpd_o1, gUpd_o2, gUpd_o3, gUpd_o4, gUpd_o5, gUpd_o6, gUpd_o7, gUpd_o8, gUpd_o9, gUpd_o10, gUpd_o11, gUpd_o12, gUpd_o13, gUpd_o14, gUpd_o15, gUpd_o16, gUpd_o17, gUpd_o18, gIsO_o, Option.bind_some, List.getElem?_cons_zero, List.getElem?_cons_succ, List.length_cons, List.length_nil, List.set_cons_zero, List.set_cons_succ, gCat_nil, gCat_int, gCat_ref, if_pos, if_neg, Option.toList_some, Option.toList_none, List.cons_append, List.nil_append, B_nar, J1_nar, J0_nar, if_true, if_false, rd_wr_same, rd_wr_ne, true_and, and_true, B_0, B_1, not_true_eq_false, not_false_eq_true, rdM0, rdM1, rdM2, rdM3, rdM4, rdM5, rdM6, rdM7, rdM8, rdM9, rdM10, rdM11, rdM12, rset_at, rset_ne, rset_rset, w0M, wZ1, wZ2, wZ3, wZ4, wZ5, wZ6, wZ7, wZ8, wZ9, wZ10, wZ11, wZ12, f7_0, f7_1, f7_2, f7_3, f7_4, f7_5, f7_6, c1]
    · rw [if_neg q]
      rw [B_neg q] at c1
      refine ⟨f1, ?_⟩
      simp (disch := first | omega | exact Nat.le_of_ble_eq_true rfl) only [e165_0, e165_1, e165_2, e165_5, e165_8, e165_9, e165_10, e165_11, e165_14, e165_15, e165_17, e165_19, e165_22, e165_23, e165_24, e165_27, e165_28, e165_31, e165_34, e165_35, e165_36, e165_37, e165_38, e165_41, e165_44, e165_47, e165_50, e165_52, J_add, J_sub, J_mul, J_neg, J_lt, J_le, J_eq, gArr_J, gAst_J, gSiz_J, gFld_o, gUpd_o0, gUpd_o1, gUpd_o2, gUpd_o3, gUpd_o4, gUpd_o5, gUpd_o6, gUpd_o7, gUpd_o8, gUpd_o9, gUpd_o10, gUpd_o11, gUpd_o12, gUpd_o13, gUpd_o14, gUpd_o15, gUpd_o16, gUpd_o17, gUpd_o18, gIsO_o, Option.bind_some, List.getElem?_cons_zero, List.getElem?_cons_succ, List.length_cons, List.length_nil, List.set_cons_zero, List.set_cons_succ, gCat_nil, gCat_int, gCat_ref, if_pos, if_neg, Option.toList_some, Option.toList_none, List.cons_append, List.nil_append, B_nar, J1_nar, J0_nar, if_true, if_false, rd_wr_same, rd_wr_ne, true_and, and_true, B_0, B_1, not_true_eq_false, not_false_eq_true, rdM0, rdM1, rdM2, rdM3, rdM4, rdM5, rdM6, rdM7, rdM8, rdM9, rdM10, rdM11, rdM12, rset_at, rset_ne, rset_rset, w0M, wZ1, wZ2, wZ3, wZ4, wZ5, wZ6, wZ7, wZ8, wZ9, wZ10, wZ11, wZ12, f7_0, f7_1, f7_2, f7_3, f7_4, f7_5, f7_6, c1, g1]
      rw [e165_16]
      simp (disch := first | omega | exact Nat.le_of_ble_eq_true rfl) only [e165_0, e165_1, e165_2, e165_5, e165_8, e165_9, e165_10, e165_11, e165_14, e165_15, e165_17, e165_19, e165_22, e165_23, e165_24, e165_27, e165_28, e165_31, e165_34, e165_35, e165_36, e165_37, e165_38, e165_41, e165_44, e165_47, e165_50, e165_52, J_add, J_sub, J_mul, J_neg, J_lt, J_le, J_eq, gArr_J, gAst_J, gSiz_J, gFld_o, gUpd_o0, gUpd_o1, gUpd_o2, gUpd_o3, gUpd_o4, gUpd_o5, gUpd_o6, gUpd_o7, gUpd_o8, gUpd_o9, gUpd_o10, gUpd_o11, gUpd_o12, gUpd_o13, gUpd_o14, gUpd_o15, gUpd_o16, gUpd_o17, gUpd_o18, gIsO_o, Option.bind_some, List.getElem?_cons_zero, List.getElem?_cons_succ, List.length_cons, List.length_nil, List.set_cons_zero, List.set_cons_succ, gCat_nil, gCat_int, gCat_ref, if_pos, if_neg, Option.toList_some, Option.toList_none, List.cons_append, List.nil_append, B_nar, J1_nar, J0_nar, if_true, if_false, rd_wr_same, rd_wr_ne, true_and, and_true, B_0, B_1, not_true_eq_false, not_false_eq_true, rdM0, rdM1, rdM2, rdM3, rdM4, rdM5, rdM6, rdM7, rdM8, rdM9, rdM10, rdM11, rdM12, rset_at, rset_ne, rset_rset, w0M, wZ1, wZ2, wZ3, wZ4, wZ5, wZ6, wZ7, wZ8, wZ9, wZ10, wZ11, wZ12, f7_0, f7_1, f7_2, f7_3, f7_4, f7_5, f7_6]
  | succ k ih =>
    intro n f hn hf
    have hh := lives_h K S n
    have c1 := t142 (nat := nat) (d := d + 3) (w := w) (M := M) hx hL hK (r := 7) (Or.inr rfl) hf (vS_lives hK hS n) hg
    rw [show ((7 : Nat) : Int) = 7 from rfl] at c1
    obtain ⟨f1, g1, g2⟩ := t149 (nat := nat) (d := d) (w := w) (M := M) hx hL hK (r := 7) (Or.inr rfl) hf (vS_lives hK hS n) (by omega)
    rw [show ((7 : Nat) : Int) = 7 from rfl] at g1
    rw [e165_16, cfr]
    by_cases q : K 1 (5 * g + 4) ≤ (lives K S n) 1 g
    · rw [if_pos q]
      rw [B_pos q] at c1
      refine ⟨f, ?_⟩
      simp (disch := first | omega | exact Nat.le_of_ble_eq_true rfl) only [e165_0, e165_1, e165_2, e165_5, e165_8, e165_9, e165_10, e165_11, e165_14, e165_15, e165_17, e165_19, e165_22, e165_23, e165_24, e165_27, e165_28, e165_31, e165_34, e165_35, e165_36, e165_37, e165_38, e165_41, e165_44, e165_47, e165_50, e165_52, J_add, J_sub, J_mul, J_neg, J_lt, J_le, J_eq, gArr_J, gAst_J, gSiz_J, gFld_o, gUpd_o0, gUpd_o1, gUpd_o2, gUpd_o3, gUpd_o4, gUpd_o5, gUpd_o6, gUpd_o7, gUpd_o8, gUpd_o9, gUpd_o10, gUpd_o11, gUpd_o12, gUpd_o13, gUpd_o14, gUpd_o15, gUpd_o16, gUpd_o17, gUpd_o18, gIsO_o, Option.bind_some, List.getElem?_cons_zero, List.getElem?_cons_succ, List.length_cons, List.length_nil, List.set_cons_zero, List.set_cons_succ, gCat_nil, gCat_int, gCat_ref, if_pos, if_neg, Option.toList_some, Option.toList_none, List.cons_append, List.nil_append, B_nar, J1_nar, J0_nar, if_true, if_false, rd_wr_same, rd_wr_ne, true_and, and_true, B_0, B_1, not_true_eq_false, not_false_eq_true, rdM0, rdM1, rdM2, rdM3, rdM4, rdM5, rdM6, rdM7, rdM8, rdM9, rdM10, rdM11, rdM12, rset_at, rset_ne, rset_rset, w0M, wZ1, wZ2, wZ3, wZ4, wZ5, wZ6, wZ7, wZ8, wZ9, wZ10, wZ11, wZ12, f7_0, f7_1, f7_2, f7_3, f7_4, f7_5, f7_6, c1]
    · rw [if_neg q]
      rw [B_neg q] at c1
      obtain ⟨f', h1⟩ := ih (n + 1) f1 (by omega) g2
      rw [show ((n + 1 : Nat) : Int) = (n : Int) + 1 from rfl] at h1
      refine ⟨f', ?_⟩
      simp (disch := first | omega | exact Nat.le_of_ble_eq_true rfl) only [e165_0, e165_1, e165_2, e165_5, e165_8, e165_9, e165_10, e165_11, e165_14, e165_15, e165_17, e165_19, e165_22, e165_23, e165_24, e165_27, e165_28, e165_31, e165_34, e165_35, e165_36, e165_37, e165_38, e165_41, e165_44, e165_47, e165_50, e165_52, J_add, J_sub, J_mul, J_neg, J_lt, J_le, J_eq, gArr_J, gAst_J, gSiz_J, gFld_o, gUpd_o0, gUpd_o1, gUpd_o2, gUpd_o3, gUpd_o4, gUpd_o5, gUpd_o6, gUpd_o7, gUpd_o8, gUpd_o9, gUpd_o10, gUpd_o11, gUpd_o12, gUpd_o13, gUpd_o14, gUpd_o15, gUpd_o16, gUpd_o17, gUpd_o18, gIsO_o, Option.bind_some, List.getElem?_cons_zero, List.getElem?_cons_succ, List.length_cons, List.length_nil, List.set_cons_zero, List.set_cons_succ, gCat_nil, gCat_int, gCat_ref, if_pos, if_neg, Option.toList_some, Option.toList_none, List.cons_append, List.nil_append, B_nar, J1_nar, J0_nar, if_true, if_false, rd_wr_same, rd_wr_ne, true_and, and_true, B_0, B_1, not_true_eq_false, not_false_eq_true, rdM0, rdM1, rdM2, rdM3, rdM4, rdM5, rdM6, rdM7, rdM8, rdM9, rdM10, rdM11, rdM12, rset_at, rset_ne, rset_rset, w0M, wZ1, wZ2, wZ3, wZ4, wZ5, wZ6, wZ7, wZ8, wZ9, wZ10, wZ11, wZ12, f7_0, f7_1, f7_2, f7_3, f7_4, f7_5, f7_6, c1, g1, h1]


theorem y165 {nat : gNat} {d : Nat} {w : gWd} {x : Nat} {M K : Lay} (hx : x + 12 < gSTR) (hL : mLaw K (M 5)) (hK : vK K) {S : Lay} (hR : mRow K S (M 6)) (hS : vS K S) (hH : 0 ≤ S 0 0 ∧ S 0 0 < 1000000) {g : Int} (h_g : -2147483648 ≤ g ∧ g < 2147483648)  : ∃ f', gC nat (d + 6) 165 [.ref x, .int (J g)] (putM w x M) = some (some (.int (J (aClo K S g))), putM w x (rset M 7 f')) := by
  obtain ⟨k0, k1, k2, k3, k4, kg, kd, kr⟩ := id hK
  obtain ⟨f0, f1, f2, f3, f4, fr, fg, fd⟩ := id hL
  have c1 := s138 (nat := nat) (d := d + 3) (w := w) hx hL hK h_g
  rw [en165]
  unfold aClo
  by_cases q1 : 0 ≤ g ∧ g ≤ K 0 1 - 1
  · rw [B_pos q1] at c1
    rw [if_pos q1]
    have c2 := s164 (nat := nat) (d := d + 4) (w := w) (M := M) hx
    obtain ⟨f', h1⟩ := l165 (nat := nat) (d := d) (w := w) (M := M) hx hL hK hS hH (g := g) (by omega) 60 0 _ (by omega) (mRow_cp (g := M 7) hK hR)
    rw [show ((0 : Nat) : Int) = 0 from rfl] at h1
    refine ⟨f', ?_⟩
    simp (disch := first | omega | exact Nat.le_of_ble_eq_true rfl) only [e165_0, e165_1, e165_2, e165_5, e165_8, e165_9, e165_10, e165_11, e165_14, e165_15, e165_17, e165_19, e165_22, e165_23, e165_24, e165_27, e165_28, e165_31, e165_34, e165_35, e165_36, e165_37, e165_38, e165_41, e165_44, e165_47, e165_50, e165_52, J_add, J_sub, J_mul, J_neg, J_lt, J_le, J_eq, gArr_J, gAst_J, gSiz_J, gFld_o, gUpd_o0, gUpd_o1, gUpd_o2, gUpd_o3, gUpd_o4, gUpd_o5, gUpd_o6, gUpd_o7, gUpd_o8, gUpd_o9, gUpd_o10, gUpd_o11, gUpd_o12, gUpd_o13, gUpd_o14, gUpd_o15, gUpd_o16, gUpd_o17, gUpd_o18, gIsO_o, Option.bind_some, List.getElem?_cons_zero, List.getElem?_cons_succ, List.length_cons, List.length_nil, List.set_cons_zero, List.set_cons_succ, gCat_nil, gCat_int, gCat_ref, if_pos, if_neg, Option.toList_some, Option.toList_none, List.cons_append, List.nil_append, B_nar, J1_nar, J0_nar, if_true, if_false, rd_wr_same, rd_wr_ne, true_and, and_true, B_0, B_1, not_true_eq_false, not_false_eq_true, rdM0, rdM1, rdM2, rdM3, rdM4, rdM5, rdM6, rdM7, rdM8, rdM9, rdM10, rdM11, rdM12, rset_at, rset_ne, rset_rset, w0M, wZ1, wZ2, wZ3, wZ4, wZ5, wZ6, wZ7, wZ8, wZ9, wZ10, wZ11, wZ12, f7_0, f7_1, f7_2, f7_3, f7_4, f7_5, f7_6, c1, c2, h1]
  · rw [B_neg q1] at c1
    rw [if_neg q1]
    refine ⟨M 7, ?_⟩
    rw [rset_self]
    simp (disch := first | omega | exact Nat.le_of_ble_eq_true rfl) only [e165_0, e165_1, e165_2, e165_5, e165_8, e165_9, e165_10, e165_11, e165_14, e165_15, e165_16, e165_17, e165_19, e165_22, e165_23, e165_24, e165_27, e165_28, e165_31, e165_34, e165_35, e165_36, e165_37, e165_38, e165_41, e165_44, e165_47, e165_50, e165_52, J_add, J_sub, J_mul, J_neg, J_lt, J_le, J_eq, gArr_J, gAst_J, gSiz_J, gFld_o, gUpd_o0, gUpd_o1, gUpd_o2, gUpd_o3, gUpd_o4, gUpd_o5, gUpd_o6, gUpd_o7, gUpd_o8, gUpd_o9, gUpd_o10, gUpd_o11, gUpd_o12, gUpd_o13, gUpd_o14, gUpd_o15, gUpd_o16, gUpd_o17, gUpd_o18, gIsO_o, Option.bind_some, List.getElem?_cons_zero, List.getElem?_cons_succ, List.length_cons, List.length_nil, List.set_cons_zero, List.set_cons_succ, gCat_nil, gCat_int, gCat_ref, if_pos, if_neg, Option.toList_some, Option.toList_none, List.cons_append, List.nil_append, B_nar, J1_nar, J0_nar, if_true, if_false, rd_wr_same, rd_wr_ne, true_and, and_true, B_0, B_1, not_true_eq_false, not_false_eq_true, rdM0, rdM1, rdM2, rdM3, rdM4, rdM5, rdM6, rdM7, rdM8, rdM9, rdM10, rdM11, rdM12, rset_at, rset_ne, rset_rset, w0M, wZ1, wZ2, wZ3, wZ4, wZ5, wZ6, wZ7, wZ8, wZ9, wZ10, wZ11, wZ12, f7_0, f7_1, f7_2, f7_3, f7_4, f7_5, f7_6, c1]

theorem lef_t {K S : Lay} (hK : vK K) (hS : vS K S) {n : Nat} (hn : (n : Int) < lef K S) : n < 24 ∧ (S 0 0 + n) % 24 < K 0 3 := by
  have h0 := hS.1
  have h3 := hK.2.2.2.1
  unfold lef at hn
  split at hn
  · omega
  · split at hn <;> omega
theorem lef_f {K S : Lay} (hK : vK K) (hS : vS K S) {n : Nat} (hn : (n : Int) = lef K S) (h : n < 24) : ¬ (S 0 0 + n) % 24 < K 0 3 := by
  have h0 := hS.1
  have h3 := hK.2.2.2.1
  unfold lef at hn
  split at hn
  · omega
  · split at hn <;> omega
theorem lef_in {K S : Lay} (hK : vK K) (hS : vS K S) : 0 ≤ lef K S ∧ lef K S ≤ 24 := by
  have h0 := hS.1
  have h3 := hK.2.2.2.1
  unfold lef
  split
  · omega
  · split <;> omega
theorem l166 {nat : gNat} {d : Nat} {w : gWd} {x : Nat} {M K : Lay} (hx : x + 12 < gSTR) (hL : mLaw K (M 5)) (hK : vK K) {S : Lay} (hS : vS K S) (hH : 0 ≤ S 0 0 ∧ S 0 0 < 1000000) {N : Nat} (hN : (N : Int) = lef K S) : ∀ (k n : Nat) (f : Int → Int), n + k = N → mRow K (lives K S n) f → ∃ f', gX (gC nat (d + 5)) nat 166 6 [some (.ref x), some (.int (J n))] [] [] (putM w x (rset M 7 f)) = some (some (.int (J (cb K (lives K S N)))), putM w x (rset M 7 f')) := by
  intro k
  induction k with
  | zero =>
    intro n f hn hf
    rw [Nat.add_zero] at hn
    subst hn
    have hl := lef_in hK hS
    have hh := lives_h K S n
    have p0 := hf.1
    rw [hh] at p0
    have c1 := t143 (nat := nat) (d := d + 2) (w := w) (M := M) hx hL hK (r := 7) (Or.inr rfl) hf (vS_lives hK hS n)
    rw [show ((7 : Nat) : Int) = 7 from rfl] at c1
    have c2 := s144 (nat := nat) (d := d + 4) (w := w) (M := rset M 7 f) hx (by rw [rset_ne (by decide)]; exact hL) hK (h := S 0 0 + n) (by omega)
    refine ⟨f, ?_⟩
    rw [e166_6]
    by_cases q : n < 24
    · rw [B_neg (lef_f hK hS hN q)] at c2
      simp (disch := first | omega | exact Nat.le_of_ble_eq_true rfl) only [e166_0, e166_1, e166_4, e166_5, e166_7, e166_9, e166_12, e166_13, e166_14, e166_17, e166_18, e166_19, e166_22, e166_25, e166_26, e166_27, e166_30, e166_33, e166_36, e166_39, e166_40, e166_41, e166_44, e166_47, J_add, J_sub, J_mul, J_neg, J_lt, J_le, J_eq, gArr_J, gAst_J, gSiz_J, gFld_o, gUpd_o0, gUpd_o1, gUpd_o2, gUpd_o3, gUpd_o4, gUpd_o5, gUpd_o6, gUpd_o7, gUpd_o8, gUpd_o9, gUpd_o10, gUpd_o11, gUpd_o12, gUpd_o13, gUpd_o14, gUpd_o15, gUpd_o16, gUpd_o17, gUpd_o18, gIsO_o, Option.bind_some, List.getElem?_cons_zero, List.getElem?_cons_succ, List.length_cons, List.length_nil, List.set_cons_zero, List.set_cons_succ, gCat_nil, gCat_int, gCat_ref, if_pos, if_neg, Option.toList_some, Option.toList_none, List.cons_append, List.nil_append, B_nar, J1_nar, J0_nar, if_true, if_false, rd_wr_same, rd_wr_ne, true_and, and_true, B_0, B_1, not_true_eq_false, not_false_eq_true, rdM0, rdM1, rdM2, rdM3, rdM4, rdM5, rdM6, rdM7, rdM8, rdM9, rdM10, rdM11, rdM12, rset_at, rset_ne, rset_rset, w0M, wZ1, wZ2, wZ3, wZ4, wZ5, wZ6, wZ7, wZ8, wZ9, wZ10, wZ11, wZ12, f7_0, f7_1, f7_2, f7_3, f7_4, f7_5, f7_6, c1, c2, p0]
    ·
      simp (disch := first | omega | exact Nat.le_of_ble_eq_true rfl) only [e166_0, e166_1, e166_4, e166_5, e166_7, e166_9, e166_12, e166_13, e166_14, e166_17, e166_18, e166_19, e166_22, e166_25, e166_26, e166_27, e166_30, e166_33, e166_36, e166_39, e166_40, e166_41, e166_44, e166_47, J_add, J_sub, J_mul, J_neg, J_lt, J_le, J_eq, gArr_J, gAst_J, gSiz_J, gFld_o, gUpd_o0, gUpd_o1, gUpd_o2, gUpd_o3, gUpd_o4, gUpd_o5, gUpd_o6, gUpd_o7, gUpd_o8, gUpd_o9, gUpd_o10, gUpd_o11, gUpd_o12, gUpd_o13, gUpd_o14, gUpd_o15, gUpd_o16, gUpd_o17, gUpd_o18, gIsO_o, Option.bind_some, List.getElem?_cons_zero, List.getElem?_cons_succ, List.length_cons, List.length_nil, List.set_cons_zero, List.set_cons_succ, gCat_nil, gCat_int, gCat_ref, if_pos, if_neg, Option.toList_some, Option.toList_none, List.cons_append, List.nil_append, B_nar, J1_nar, J0_nar, if_true, if_false, rd_wr_same, rd_wr_ne, true_and, and_true, B_0, B_1, not_true_eq_false, not_false_eq_true, rdM0, rdM1, rdM2, rdM3, rdM4, rdM5, rdM6, rdM7, rdM8, rdM9, rdM10, rdM11, rdM12, rset_at, rset_ne, rset_rset, w0M, wZ1, wZ2, wZ3, wZ4, wZ5, wZ6, wZ7, wZ8, wZ9, wZ10, wZ11, wZ12, f7_0, f7_1, f7_2, f7_3, f7_4, f7_5, f7_6, c1]
  | succ k ih =>
    intro n f hn hf
    obtain ⟨t1, t2⟩ := lef_t hK hS (n := n) (by omega)
    have hh := lives_h K S n
    have p0 := hf.1
    rw [hh] at p0
    have c2 := s144 (nat := nat) (d := d + 4) (w := w) (M := rset M 7 f) hx (by rw [rset_ne (by decide)]; exact hL) hK (h := S 0 0 + n) (by omega)
    rw [B_pos t2] at c2
    obtain ⟨f1, g1, g2⟩ := t149 (nat := nat) (d := d) (w := w) (M := M) hx hL hK (r := 7) (Or.inr rfl) hf (vS_lives hK hS n) (by omega)
    rw [show ((7 : Nat) : Int) = 7 from rfl] at g1
    obtain ⟨f', h1⟩ := ih (n + 1) f1 (by omega) g2
    rw [show ((n + 1 : Nat) : Int) = (n : Int) + 1 from rfl] at h1
    refine ⟨f', ?_⟩
    rw [e166_6]
    simp (disch := first | omega | exact Nat.le_of_ble_eq_true rfl) only [e166_0, e166_1, e166_4, e166_5, e166_7, e166_9, e166_12, e166_13, e166_14, e166_17, e166_18, e166_19, e166_22, e166_25, e166_26, e166_27, e166_30, e166_33, e166_36, e166_39, e166_40, e166_41, e166_44, e166_47, J_add, J_sub, J_mul, J_neg, J_lt, J_le, J_eq, gArr_J, gAst_J, gSiz_J, gFld_o, gUpd_o0, gUpd_o1, gUpd_o2, gUpd_o3, gUpd_o4, gUpd_o5, gUpd_o6, gUpd_o7, gUpd_o8, gUpd_o9, gUpd_o10, gUpd_o11, gUpd_o12, gUpd_o13, gUpd_o14, gUpd_o15, gUpd_o16, gUpd_o17, gUpd_o18, gIsO_o, Option.bind_some, List.getElem?_cons_zero, List.getElem?_cons_succ, List.length_cons, List.length_nil, List.set_cons_zero, List.set_cons_succ, gCat_nil, gCat_int, gCat_ref, if_pos, if_neg, Option.toList_some, Option.toList_none, List.cons_append, List.nil_append, B_nar, J1_nar, J0_nar, if_true, if_false, rd_wr_same, rd_wr_ne, true_and, and_true, B_0, B_1, not_true_eq_false, not_false_eq_true, rdM0, rdM1, rdM2, rdM3, rdM4, rdM5, rdM6, rdM7, rdM8, rdM9, rdM10, rdM11, rdM12, rset_at, rset_ne, rset_rset, w0M, wZ1, wZ2, wZ3, wZ4, wZ5, wZ6, wZ7, wZ8, wZ9, wZ10, wZ11, wZ12, f7_0, f7_1, f7_2, f7_3, f7_4, f7_5, f7_6, c2, p0, g1, h1]


theorem y166 {nat : gNat} {d : Nat} {w : gWd} {x : Nat} {M K : Lay} (hx : x + 12 < gSTR) (hL : mLaw K (M 5)) (hK : vK K) {S : Lay} (hR : mRow K S (M 6)) (hS : vS K S) (hH : 0 ≤ S 0 0 ∧ S 0 0 < 1000000)  : ∃ f', gC nat (d + 6) 166 [.ref x] (putM w x M) = some (some (.int (J (cb K (lives K S (lef K S).toNat)))), putM w x (rset M 7 f')) := by
  have hl := lef_in hK hS
  have c2 := s164 (nat := nat) (d := d + 4) (w := w) (M := M) hx
  obtain ⟨f', h1⟩ := l166 (nat := nat) (d := d) (w := w) (M := M) hx hL hK hS hH (N := (lef K S).toNat) (by omega) (lef K S).toNat 0 _ (by omega) (mRow_cp (g := M 7) hK hR)
  rw [show ((0 : Nat) : Int) = 0 from rfl] at h1
  refine ⟨f', ?_⟩
  rw [en166]
  simp (disch := first | omega | exact Nat.le_of_ble_eq_true rfl) only [e166_0, e166_1, e166_4, e166_5, e166_7, e166_9, e166_12, e166_13, e166_14, e166_17, e166_18, e166_19, e166_22, e166_25, e166_26, e166_27, e166_30, e166_33, e166_36, e166_39, e166_40, e166_41, e166_44, e166_47, J_add, J_sub, J_mul, J_neg, J_lt, J_le, J_eq, gArr_J, gAst_J, gSiz_J, gFld_o, gUpd_o0, gUpd_o1, gUpd_o2, gUpd_o3, gUpd_o4, gUpd_o5, gUpd_o6, gUpd_o7, gUpd_o8, gUpd_o9, gUpd_o10, gUpd_o11, gUpd_o12, gUpd_o13, gUpd_o14, gUpd_o15, gUpd_o16, gUpd_o17, gUpd_o18, gIsO_o, Option.bind_some, List.getElem?_cons_zero, List.getElem?_cons_succ, List.length_cons, List.length_nil, List.set_cons_zero, List.set_cons_succ, gCat_nil, gCat_int, gCat_ref, if_pos, if_neg, Option.toList_some, Option.toList_none, List.cons_append, List.nil_append, B_nar, J1_nar, J0_nar, if_true, if_false, rd_wr_same, rd_wr_ne, true_and, and_true, B_0, B_1, not_true_eq_false, not_false_eq_true, rdM0, rdM1, rdM2, rdM3, rdM4, rdM5, rdM6, rdM7, rdM8, rdM9, rdM10, rdM11, rdM12, rset_at, rset_ne, rset_rset, w0M, wZ1, wZ2, wZ3, wZ4, wZ5, wZ6, wZ7, wZ8, wZ9, wZ10, wZ11, wZ12, f7_0, f7_1, f7_2, f7_3, f7_4, f7_5, f7_6, c2, h1]
