theorem and31 (x : Int32) : ∃ c : Nat, c < 32 ∧ x &&& J 31 = J (c : Int) := by
  refine ⟨(x.toBitVec &&& 31#32).toNat, ?_, ?_⟩
  · rw [BitVec.toNat_and]
    exact Nat.lt_of_le_of_lt Nat.and_le_right (by decide)
  · apply b_ext
    intro i hi
    rw [b_and, bt_J hi, BitVec.testBit_toNat, BitVec.getLsbD_and]
    show (bt x i && bt (J ((31 : Nat) : Int)) i) = (x.toBitVec.getLsbD i && (31#32).getLsbD i)
    rw [bt_J hi]
    have e : ∀ i, i < 32 → Nat.testBit 31 i = (31#32).getLsbD i := by decide
    rw [e i hi]
    rfl

theorem lawStep {nat : gNat} {L : Nat} {xs : Nat → Int32} (hL : L ≤ 320) (n14 : nat.1 14 [] = some (.int (J L))) (n13 : ∀ i : Nat, i < L → nat.1 13 [.int (J i)] = some (.int (xs i))) {w : gWd} {i : Nat} (hi : i + 5 ≤ L) (hW : lawW (i : Int) w) : ∃ w', gX (gC gNatNo 30) nat 193 18 [some (.ref gSCR), some (.ref 0), some (.ref 96), some (.int (J i))] [] [] w = gX (gC gNatNo 30) nat 193 18 [some (.ref gSCR), some (.ref 0), some (.ref 96), some (.int (J (i + 5 : Nat)))] [] [] w' ∧ lawW ((i + 5 : Nat) : Int) w' := by
  have hs : rd w gSCR = none := by
    obtain ⟨p, q, X, K, S, PT, KT, M, hX, hM, hs, hz, hI⟩ := hW
    exact hs
  have hmono : ∀ w', lawW ((i : Int) + 1) w' → lawW ((i + 5 : Nat) : Int) w' := by
    rintro w' ⟨p, q, X, K, S, PT, KT, M, hX, hM, hs, hz, hI⟩
    exact ⟨p, q, X, K, S, PT, KT, M, hX, hM, hs, hz, stI_mono hI (by omega)⟩
  have back : ∀ w', gX (gC gNatNo 30) nat 193 894 [some (.ref gSCR), some (.ref 0), some (.ref 96), some (.int (J i))] [] [] w' = gX (gC gNatNo 30) nat 193 18 [some (.ref gSCR), some (.ref 0), some (.ref 96), some (.int (J (i + 5 : Nat)))] [] [] w' := by
    intro w'
    rw [show ((i + 5 : Nat) : Int) = (i : Int) + 5 from rfl]
    simp (disch := first | omega | exact Nat.le_of_ble_eq_true rfl) only [e193_894, e193_897, J_add, J_sub, J_mul, J_neg, J_lt, J_le, gArr_J, gAst_J, gSiz_J, gFld_o, gUpd_o0, gUpd_o1, gUpd_o2, gUpd_o3, gUpd_o4, gUpd_o5, gUpd_o6, gUpd_o7, gUpd_o8, gUpd_o9, gUpd_o10, gUpd_o11, gUpd_o12, gUpd_o13, gUpd_o14, gUpd_o15, gUpd_o16, gUpd_o17, gUpd_o18, gIsO_o, Option.bind_some, List.getElem?_cons_zero, List.getElem?_cons_succ, List.length_cons, List.length_nil, List.set_cons_zero, List.set_cons_succ, gCat_nil, gCat_int, gCat_ref, if_pos, if_neg, Option.toList_some, Option.toList_none, List.cons_append, List.nil_append, B_nar, J1_nar, J0_nar, if_true, if_false, rd_wr_same, rd_wr_ne, true_and, and_true, B_0, B_1, not_true_eq_false, not_false_eq_true, eq_self, Option.bind_some, ]
  have n0 := n13 i (by omega)
  have arg : ∀ j : Nat, j < 5 → ∃ a : Int, (-2147483648 ≤ a ∧ a < 2147483648) ∧ nat.1 13 [.int (J ((i : Int) + j))] = some (.int (J a)) := by
    intro j hj
    obtain ⟨a, ha, hx⟩ := J_of (xs (i + j))
    refine ⟨a, ha, ?_⟩
    have := n13 (i + j) (by omega)
    rw [hx] at this
    exact this
  obtain ⟨a1, h1, v1⟩ := arg 1 (by omega)
  obtain ⟨a2, h2, v2⟩ := arg 2 (by omega)
  obtain ⟨a3, h3, v3⟩ := arg 3 (by omega)
  obtain ⟨a4, h4, v4⟩ := arg 4 (by omega)
  rw [show (((1 : Nat) : Int)) = 1 from rfl] at v1
  rw [show (((2 : Nat) : Int)) = 2 from rfl] at v2
  rw [show (((3 : Nat) : Int)) = 3 from rfl] at v3
  rw [show (((4 : Nat) : Int)) = 4 from rfl] at v4
  obtain ⟨c, hc, hx⟩ := and31 (xs i)
  have front : gX (gC gNatNo 30) nat 193 18 [some (.ref gSCR), some (.ref 0), some (.ref 96), some (.int (J i))] [] [] w = gX (gC gNatNo 30) nat 193 32 [some (.ref gSCR), some (.ref 0), some (.ref 96), some (.int (J i))] [] [.int (J c)] w := by
    simp (disch := first | omega | exact Nat.le_of_ble_eq_true rfl) only [e193_18, e193_19, e193_20, e193_21, e193_22, e193_23, e193_26, e193_27, e193_28, e193_29, e193_31, J_add, J_sub, J_mul, J_neg, J_lt, J_le, gArr_J, gAst_J, gSiz_J, gFld_o, gUpd_o0, gUpd_o1, gUpd_o2, gUpd_o3, gUpd_o4, gUpd_o5, gUpd_o6, gUpd_o7, gUpd_o8, gUpd_o9, gUpd_o10, gUpd_o11, gUpd_o12, gUpd_o13, gUpd_o14, gUpd_o15, gUpd_o16, gUpd_o17, gUpd_o18, gIsO_o, Option.bind_some, List.getElem?_cons_zero, List.getElem?_cons_succ, List.length_cons, List.length_nil, List.set_cons_zero, List.set_cons_succ, gCat_nil, gCat_int, gCat_ref, if_pos, if_neg, Option.toList_some, Option.toList_none, List.cons_append, List.nil_append, B_nar, J1_nar, J0_nar, if_true, if_false, rd_wr_same, rd_wr_ne, true_and, and_true, B_0, B_1, not_true_eq_false, not_false_eq_true, eq_self, Option.bind_some, hs, n14, n0, hx, J_eq]
  rw [front]
  clear front
  by_cases c0 : c = 0
  case pos =>
    subst c0
    obtain ⟨w', e1, e2⟩ := k0 (nat := nat) (t := i) (w := w) (i := i) (by omega) (by omega) (by omega) hW h1 v1
    refine ⟨w', ?_, hmono w' e2⟩
    rw [show ((0 : Nat) : Int) = 0 from rfl, e193_32s0, e1, back]
  by_cases c1 : c = 1
  case pos =>
    subst c1
    obtain ⟨w', e1, e2⟩ := k1 (nat := nat) (t := i) (w := w) (i := i) (by omega) (by omega) (by omega) hW
    refine ⟨w', ?_, hmono w' e2⟩
    rw [show ((1 : Nat) : Int) = 1 from rfl, e193_32s1, e1, back]
  by_cases c2 : c = 2
  case pos =>
    subst c2
    obtain ⟨w', e1, e2⟩ := k2 (nat := nat) (t := i) (w := w) (i := i) (by omega) (by omega) (by omega) hW
    refine ⟨w', ?_, hmono w' e2⟩
    rw [show ((2 : Nat) : Int) = 2 from rfl, e193_32s2, e1, back]
  by_cases c3 : c = 3
  case pos =>
    subst c3
    obtain ⟨w', e1, e2⟩ := k3 (nat := nat) (t := i) (w := w) (i := i) (by omega) (by omega) (by omega) hW
    refine ⟨w', ?_, hmono w' e2⟩
    rw [show ((3 : Nat) : Int) = 3 from rfl, e193_32s3, e1, back]
  by_cases c4 : c = 4
  case pos =>
    subst c4
    obtain ⟨w', e1, e2⟩ := k4 (nat := nat) (t := i) (w := w) (i := i) (by omega) (by omega) (by omega) hW h1 v1 h2 v2
    refine ⟨w', ?_, hmono w' e2⟩
    rw [show ((4 : Nat) : Int) = 4 from rfl, e193_32s4, e1, back]
  by_cases c5 : c = 5
  case pos =>
    subst c5
    obtain ⟨w', e1, e2⟩ := k5 (nat := nat) (t := i) (w := w) (i := i) (by omega) (by omega) (by omega) hW h1 v1 h2 v2
    refine ⟨w', ?_, hmono w' e2⟩
    rw [show ((5 : Nat) : Int) = 5 from rfl, e193_32s5, e1, back]
  by_cases c6 : c = 6
  case pos =>
    subst c6
    obtain ⟨w', e1, e2⟩ := k6 (nat := nat) (t := i) (w := w) (i := i) (by omega) (by omega) (by omega) hW h1 v1 h2 v2
    refine ⟨w', ?_, hmono w' e2⟩
    rw [show ((6 : Nat) : Int) = 6 from rfl, e193_32s6, e1, back]
  by_cases c7 : c = 7
  case pos =>
    subst c7
    obtain ⟨w', e1, e2⟩ := k7 (nat := nat) (t := i) (w := w) (i := i) (by omega) (by omega) (by omega) hW h1 v1 h2 v2
    refine ⟨w', ?_, hmono w' e2⟩
    rw [show ((7 : Nat) : Int) = 7 from rfl, e193_32s7, e1, back]
  by_cases c8 : c = 8
  case pos =>
    subst c8
    obtain ⟨w', e1, e2⟩ := k8 (nat := nat) (t := i) (w := w) (i := i) (by omega) (by omega) (by omega) hW h1 v1 h2 v2
    refine ⟨w', ?_, hmono w' e2⟩
    rw [show ((8 : Nat) : Int) = 8 from rfl, e193_32s8, e1, back]
  by_cases c9 : c = 9
  case pos =>
    subst c9
    obtain ⟨w', e1, e2⟩ := k9 (nat := nat) (t := i) (w := w) (i := i) (by omega) (by omega) (by omega) hW h1 v1
    refine ⟨w', ?_, hmono w' e2⟩
    rw [show ((9 : Nat) : Int) = 9 from rfl, e193_32s9, e1, back]
  by_cases c10 : c = 10
  case pos =>
    subst c10
    obtain ⟨w', e1, e2⟩ := k10 (nat := nat) (t := i) (w := w) (i := i) (by omega) (by omega) (by omega) hW h1 v1
    refine ⟨w', ?_, hmono w' e2⟩
    rw [show ((10 : Nat) : Int) = 10 from rfl, e193_32s10, e1, back]
  by_cases c11 : c = 11
  case pos =>
    subst c11
    obtain ⟨w', e1, e2⟩ := k11 (nat := nat) (t := i) (w := w) (i := i) (by omega) (by omega) (by omega) hW
    refine ⟨w', ?_, hmono w' e2⟩
    rw [show ((11 : Nat) : Int) = 11 from rfl, e193_32s11, e1, back]
  by_cases c12 : c = 12
  case pos =>
    subst c12
    obtain ⟨w', e1, e2⟩ := k12 (nat := nat) (t := i) (w := w) (i := i) (by omega) (by omega) (by omega) hW h1 v1
    refine ⟨w', ?_, hmono w' e2⟩
    rw [show ((12 : Nat) : Int) = 12 from rfl, e193_32s12, e1, back]
  by_cases c13 : c = 13
  case pos =>
    subst c13
    obtain ⟨w', e1, e2⟩ := k13 (nat := nat) (t := i) (w := w) (i := i) (by omega) (by omega) (by omega) hW
    refine ⟨w', ?_, hmono w' e2⟩
    rw [show ((13 : Nat) : Int) = 13 from rfl, e193_32s13, e1, back]
  by_cases c14 : c = 14
  case pos =>
    subst c14
    obtain ⟨w', e1, e2⟩ := k14 (nat := nat) (t := i) (w := w) (i := i) (by omega) (by omega) (by omega) hW h1 v1 h2 v2 h3 v3
    refine ⟨w', ?_, hmono w' e2⟩
    rw [show ((14 : Nat) : Int) = 14 from rfl, e193_32s14, e1, back]
  by_cases c15 : c = 15
  case pos =>
    subst c15
    obtain ⟨w', e1, e2⟩ := k15 (nat := nat) (t := i) (w := w) (i := i) (by omega) (by omega) (by omega) hW h1 v1 h2 v2
    refine ⟨w', ?_, hmono w' e2⟩
    rw [show ((15 : Nat) : Int) = 15 from rfl, e193_32s15, e1, back]
  by_cases c16 : c = 16
  case pos =>
    subst c16
    obtain ⟨w', e1, e2⟩ := k16 (nat := nat) (t := i) (w := w) (i := i) (by omega) (by omega) (by omega) hW h1 v1 h2 v2
    refine ⟨w', ?_, hmono w' e2⟩
    rw [show ((16 : Nat) : Int) = 16 from rfl, e193_32s16, e1, back]
  by_cases c17 : c = 17
  case pos =>
    subst c17
    obtain ⟨w', e1, e2⟩ := k17 (nat := nat) (t := i) (w := w) (i := i) (by omega) (by omega) (by omega) hW h1 v1 h2 v2
    refine ⟨w', ?_, hmono w' e2⟩
    rw [show ((17 : Nat) : Int) = 17 from rfl, e193_32s17, e1, back]
  by_cases c18 : c = 18
  case pos =>
    subst c18
    obtain ⟨w', e1, e2⟩ := k18 (nat := nat) (t := i) (w := w) (i := i) (by omega) (by omega) (by omega) hW h1 v1
    refine ⟨w', ?_, hmono w' e2⟩
    rw [show ((18 : Nat) : Int) = 18 from rfl, e193_32s18, e1, back]
  by_cases c19 : c = 19
  case pos =>
    subst c19
    obtain ⟨w', e1, e2⟩ := k19 (nat := nat) (t := i) (w := w) (i := i) (by omega) (by omega) (by omega) hW h1 v1 h2 v2 h3 v3
    refine ⟨w', ?_, hmono w' e2⟩
    rw [show ((19 : Nat) : Int) = 19 from rfl, e193_32s19, e1, back]
  by_cases c20 : c = 20
  case pos =>
    subst c20
    obtain ⟨w', e1, e2⟩ := k20 (nat := nat) (t := i) (w := w) (i := i) (by omega) (by omega) (by omega) hW
    refine ⟨w', ?_, hmono w' e2⟩
    rw [show ((20 : Nat) : Int) = 20 from rfl, e193_32s20, e1, back]
  by_cases c21 : c = 21
  case pos =>
    subst c21
    obtain ⟨w', e1, e2⟩ := k21 (nat := nat) (t := i) (w := w) (i := i) (by omega) (by omega) (by omega) hW h1 v1
    refine ⟨w', ?_, hmono w' e2⟩
    rw [show ((21 : Nat) : Int) = 21 from rfl, e193_32s21, e1, back]
  by_cases c22 : c = 22
  case pos =>
    subst c22
    obtain ⟨w', e1, e2⟩ := k22 (nat := nat) (t := i) (w := w) (i := i) (by omega) (by omega) (by omega) hW h1 v1
    refine ⟨w', ?_, hmono w' e2⟩
    rw [show ((22 : Nat) : Int) = 22 from rfl, e193_32s22, e1, back]
  by_cases c23 : c = 23
  case pos =>
    subst c23
    obtain ⟨w', e1, e2⟩ := k23 (nat := nat) (t := i) (w := w) (i := i) (by omega) (by omega) (by omega) hW h1 v1 h2 v2 h3 v3 h4 v4
    refine ⟨w', ?_, hmono w' e2⟩
    rw [show ((23 : Nat) : Int) = 23 from rfl, e193_32s23, e1, back]
  by_cases c24 : c = 24
  case pos =>
    subst c24
    obtain ⟨w', e1, e2⟩ := k24 (nat := nat) (t := i) (w := w) (i := i) (by omega) (by omega) (by omega) hW h1 v1 h2 v2 h3 v3
    refine ⟨w', ?_, hmono w' e2⟩
    rw [show ((24 : Nat) : Int) = 24 from rfl, e193_32s24, e1, back]
  by_cases c25 : c = 25
  case pos =>
    subst c25
    obtain ⟨w', e1, e2⟩ := k25 (nat := nat) (t := i) (w := w) (i := i) (by omega) (by omega) (by omega) hW
    refine ⟨w', ?_, hmono w' e2⟩
    rw [show ((25 : Nat) : Int) = 25 from rfl, e193_32s25, e1, back]
  by_cases c26 : c = 26
  case pos =>
    subst c26
    obtain ⟨w', e1, e2⟩ := k26 (nat := nat) (t := i) (w := w) (i := i) (by omega) (by omega) (by omega) hW
    refine ⟨w', ?_, hmono w' e2⟩
    rw [show ((26 : Nat) : Int) = 26 from rfl, e193_32s26, e1, back]
  by_cases c27 : c = 27
  case pos =>
    subst c27
    obtain ⟨w', e1, e2⟩ := k27 (nat := nat) (t := i) (w := w) (i := i) (by omega) (by omega) (by omega) hW h1 v1
    refine ⟨w', ?_, hmono w' e2⟩
    rw [show ((27 : Nat) : Int) = 27 from rfl, e193_32s27, e1, back]
  refine ⟨w, ?_, ?_⟩
  · rw [e193_32d (by rw [J_toInt (by omega)]; omega), back]
  · obtain ⟨p, q, X, K, S, PT, KT, M, hX, hM, hs, hz, hI⟩ := hW
    exact ⟨p, q, X, K, S, PT, KT, M, hX, hM, hs, hz, stI_mono hI (by omega)⟩

theorem lawLoop {nat : gNat} {L : Nat} {xs : Nat → Int32} (hL : L ≤ 320) (n14 : nat.1 14 [] = some (.int (J L))) (n13 : ∀ i : Nat, i < L → nat.1 13 [.int (J i)] = some (.int (xs i))) : ∀ (k i : Nat) (w : gWd), L < i + 5 + 5 * k → i ≤ 320 → lawW (i : Int) w → ∃ w', gX (gC gNatNo 30) nat 193 18 [some (.ref gSCR), some (.ref 0), some (.ref 96), some (.int (J i))] [] [] w = some (some (.int (J 1)), w') ∧ w'.2 = (109, 1452) := by
  intro k
  induction k with
  | zero =>
    intro i w hk hi hW
    obtain ⟨p, q, X, K, S, PT, KT, M, hX, hM, hs, hz, hI⟩ := hW
    refine ⟨w, ?_, hz⟩
    simp (disch := first | omega | exact Nat.le_of_ble_eq_true rfl) only [e193_18, e193_19, e193_20, e193_21, e193_22, e193_23, J_add, J_sub, J_mul, J_neg, J_lt, J_le, gArr_J, gAst_J, gSiz_J, gFld_o, gUpd_o0, gUpd_o1, gUpd_o2, gUpd_o3, gUpd_o4, gUpd_o5, gUpd_o6, gUpd_o7, gUpd_o8, gUpd_o9, gUpd_o10, gUpd_o11, gUpd_o12, gUpd_o13, gUpd_o14, gUpd_o15, gUpd_o16, gUpd_o17, gUpd_o18, gIsO_o, Option.bind_some, List.getElem?_cons_zero, List.getElem?_cons_succ, List.length_cons, List.length_nil, List.set_cons_zero, List.set_cons_succ, gCat_nil, gCat_int, gCat_ref, if_pos, if_neg, Option.toList_some, Option.toList_none, List.cons_append, List.nil_append, B_nar, J1_nar, J0_nar, if_true, if_false, rd_wr_same, rd_wr_ne, true_and, and_true, B_0, B_1, not_true_eq_false, not_false_eq_true, eq_self, Option.bind_some, hs, n14]
    simp (disch := first | omega | exact Nat.le_of_ble_eq_true rfl) only [e193_897, e193_900, e193_901, J_add, J_sub, J_mul, J_neg, J_lt, J_le, gArr_J, gAst_J, gSiz_J, gFld_o, gUpd_o0, gUpd_o1, gUpd_o2, gUpd_o3, gUpd_o4, gUpd_o5, gUpd_o6, gUpd_o7, gUpd_o8, gUpd_o9, gUpd_o10, gUpd_o11, gUpd_o12, gUpd_o13, gUpd_o14, gUpd_o15, gUpd_o16, gUpd_o17, gUpd_o18, gIsO_o, Option.bind_some, List.getElem?_cons_zero, List.getElem?_cons_succ, List.length_cons, List.length_nil, List.set_cons_zero, List.set_cons_succ, gCat_nil, gCat_int, gCat_ref, if_pos, if_neg, Option.toList_some, Option.toList_none, List.cons_append, List.nil_append, B_nar, J1_nar, J0_nar, if_true, if_false, rd_wr_same, rd_wr_ne, true_and, and_true, B_0, B_1, not_true_eq_false, not_false_eq_true, eq_self, Option.bind_some, J1_nar]
  | succ k ih =>
    intro i w hk hi hW
    by_cases q : i + 5 ≤ L
    · obtain ⟨w1, e1, e2⟩ := lawStep hL n14 n13 q hW
      obtain ⟨w', e3, e4⟩ := ih (i + 5) w1 (by omega) (by omega) e2
      exact ⟨w', e1.trans e3, e4⟩
    · obtain ⟨p, q1, X, K, S, PT, KT, M, hX, hM, hs, hz, hI⟩ := hW
      refine ⟨w, ?_, hz⟩
      simp (disch := first | omega | exact Nat.le_of_ble_eq_true rfl) only [e193_18, e193_19, e193_20, e193_21, e193_22, e193_23, J_add, J_sub, J_mul, J_neg, J_lt, J_le, gArr_J, gAst_J, gSiz_J, gFld_o, gUpd_o0, gUpd_o1, gUpd_o2, gUpd_o3, gUpd_o4, gUpd_o5, gUpd_o6, gUpd_o7, gUpd_o8, gUpd_o9, gUpd_o10, gUpd_o11, gUpd_o12, gUpd_o13, gUpd_o14, gUpd_o15, gUpd_o16, gUpd_o17, gUpd_o18, gIsO_o, Option.bind_some, List.getElem?_cons_zero, List.getElem?_cons_succ, List.length_cons, List.length_nil, List.set_cons_zero, List.set_cons_succ, gCat_nil, gCat_int, gCat_ref, if_pos, if_neg, Option.toList_some, Option.toList_none, List.cons_append, List.nil_append, B_nar, J1_nar, J0_nar, if_true, if_false, rd_wr_same, rd_wr_ne, true_and, and_true, B_0, B_1, not_true_eq_false, not_false_eq_true, eq_self, Option.bind_some, hs, n14]
      simp (disch := first | omega | exact Nat.le_of_ble_eq_true rfl) only [e193_897, e193_900, e193_901, J_add, J_sub, J_mul, J_neg, J_lt, J_le, gArr_J, gAst_J, gSiz_J, gFld_o, gUpd_o0, gUpd_o1, gUpd_o2, gUpd_o3, gUpd_o4, gUpd_o5, gUpd_o6, gUpd_o7, gUpd_o8, gUpd_o9, gUpd_o10, gUpd_o11, gUpd_o12, gUpd_o13, gUpd_o14, gUpd_o15, gUpd_o16, gUpd_o17, gUpd_o18, gIsO_o, Option.bind_some, List.getElem?_cons_zero, List.getElem?_cons_succ, List.length_cons, List.length_nil, List.set_cons_zero, List.set_cons_succ, gCat_nil, gCat_int, gCat_ref, if_pos, if_neg, Option.toList_some, Option.toList_none, List.cons_append, List.nil_append, B_nar, J1_nar, J0_nar, if_true, if_false, rd_wr_same, rd_wr_ne, true_and, and_true, B_0, B_1, not_true_eq_false, not_false_eq_true, eq_self, Option.bind_some, J1_nar]

def wI : gWd := (fun _ => none, (0, 0))
def wJ : gWd := al wI (oC 8 [.null, .int 0, .null, .null, .null, .null, .null, .null, .null, .null, .null, .null, .null]) 13
theorem lawRun {nat : gNat} {L : Nat} {xs : Nat → Int32} (hL : L ≤ 320) (n14 : nat.1 14 [] = some (.int (J L))) (n13 : ∀ i : Nat, i < L → nat.1 13 [.int (J i)] = some (.int (xs i))) {w7 : gWd} (nC : nat.2 75 [.ref 0] wJ = some (none, w7)) (hX : isX w7 4 8 X00 K0 (begS K0) (fun _ => zL) (fun _ => zL)) (hz : w7.2 = (96, 853)) (hs : rd w7 gSCR = none) : ∃ w', gX (gC gNatNo 30) nat 193 0 [some (.ref gSCR), none, none, none] [] [] wI = some (some (.int (J 1)), w') ∧ w'.2 = (109, 1452) := by
  have hz1 : w7.2.1 = 96 := by rw [hz]
  have hz2 : w7.2.2 = 853 := by rw [hz]
  have f1 : gX (gC gNatNo 30) nat 193 0 [some (.ref gSCR), none, none, none] [] [] wI = gX (gC gNatNo 30) nat 193 8 [some (.ref gSCR), some (.ref 0), none, none] [] [] w7 := by
    rw [e193_0, if_neg (by decide)]
    show gX _ _ _ _ _ _ [.ref 0] wJ = _
    rw [e193_3, e193_4, if_pos (by decide), nC]
    show (if wJ.2.1 ≤ w7.2.1 ∧ wJ.2.2 ≤ w7.2.2 then _ else _) = _
    rw [hz1, hz2, if_pos (by decide)]
    show gX _ _ _ _ _ _ [.ref 0] w7 = _
    rw [e193_7]
  have hu : (al w7 (oC 9 [.int 0, .null, .int 0, .null, .null, .null, .int 0, .null, .null, .null, .int 0, .int 0, .null, .int 0, .null, .null, .null, .int 0, .null]) 19).2.1 = 96 + 1 := by
    rw [al_n, hz1]
  have hr : rd (al w7 (oC 9 [.int 0, .null, .int 0, .null, .null, .null, .int 0, .null, .null, .null, .int 0, .int 0, .null, .int 0, .null, .null, .null, .int 0, .null]) 19) 96 = oC 9 [.int 0, .null, .int 0, .null, .null, .null, .int 0, .null, .null, .null, .int 0, .int 0, .null, .int 0, .null, .null, .null, .int 0, .null] := rd_al_n (by rw [hz1])
  have c1 := c119 (nat := gNatNo) (d := 28) (by decide) hr hu
  have f2 : gX (gC gNatNo 30) nat 193 8 [some (.ref gSCR), some (.ref 0), none, none] [] [] w7 = gX (gC gNatNo 30) nat 193 18 [some (.ref gSCR), some (.ref 0), some (.ref 96), some (.int (J (0 : Nat)))] [] [] (putM (w0W (al w7 (oC 9 [.int 0, .null, .int 0, .null, .null, .null, .int 0, .null, .null, .null, .int 0, .int 0, .null, .int 0, .null, .null, .null, .int 0, .null]) 19) 96) 96 M00) := by
    rw [e193_8, if_neg (by rw [hz1]; decide), hz1, e193_11, e193_12, if_pos (by decide), c1]
    show gX _ _ _ _ _ _ [.ref 96] _ = _
    rw [e193_15, e193_16, e193_17]
    rfl
  have hW : lawW ((0 : Nat) : Int) (putM (w0W (al w7 (oC 9 [.int 0, .null, .int 0, .null, .null, .null, .int 0, .null, .null, .null, .int 0, .int 0, .null, .int 0, .null, .null, .null, .int 0, .null]) 19) 96) 96 M00) := by
    refine ⟨4, 8, X00, K0, begS K0, fun _ => zL, fun _ => zL, M00, isX_fr hX (fun z hz' => ?_), put_put.symm, ?_, ?_, st_0⟩
    · rw [rdMn (Or.inl hz')]
      exact rd_al_o (k := 19) (by rw [hz1]; exact hz')
    · rw [rdMn (Or.inr (by decide))]
      show (if gSCR = w7.2.1 then _ else _) = _
      rw [if_neg (by rw [hz1]; decide)]
      exact hs
    · show (96 + 13, w7.2.2 + 19 + 580) = _
      rw [hz2]
  obtain ⟨w', e1, e2⟩ := lawLoop hL n14 n13 64 0 _ (by omega) (by omega) hW
  exact ⟨w', f1.trans (f2.trans e1), e2⟩
