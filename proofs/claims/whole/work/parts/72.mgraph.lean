def rcI (K : Lay) (s P : Nat) : Nat → Nat
  | 0 => P
  | n + 1 => onw K s (rcI K s P n) (K 0 1).toNat
abbrev rch (K : Lay) (s a : Nat) : Nat := rcI K s (2 ^ a) (K 0 0).toNat
theorem onw_sub {K : Lay} {s P i : Nat} (h : P.testBit i = true) : ∀ n, (onw K s P n).testBit i = true := by
  intro n
  induction n with
  | zero => exact h
  | succ n ih =>
    unfold onw
    split
    · rw [Nat.testBit_or, ih, Bool.true_or]
    · exact ih
theorem rcI_sub {K : Lay} {s P i : Nat} (h : P.testBit i = true) : ∀ n, (rcI K s P n).testBit i = true := by
  intro n
  induction n with
  | zero => exact h
  | succ n ih => exact onw_sub ih _
theorem rcI_lt {K : Lay} (hK : vK K) {s P : Nat} (hP : P < 256) : ∀ n, rcI K s P n < 256 := by
  intro n
  induction n with
  | zero => exact hP
  | succ n ih => exact onw_lt hK ih _ (by have := hK.2.1; omega)
theorem rch_self (K : Lay) (s a : Nat) : (rch K s a).testBit a = true := rcI_sub (by rw [Nat.testBit_two_pow_self]) _
theorem rch_lt {K : Lay} (hK : vK K) {s a : Nat} (ha : a < 8) : rch K s a < 256 := rcI_lt hK (pow8 ha) _
theorem popN_pos {s i : Nat} (h : s.testBit i = true) : ∀ n, i < n → 1 ≤ popN s n := by
  intro n
  induction n with
  | zero => intro hi; omega
  | succ n ih =>
    intro hi
    unfold popN
    by_cases z : i = n
    · rw [if_pos (by rw [← z]; exact h)]
      omega
    · have := ih (by omega)
      omega
def prI (K : Lay) (s : Nat) : Nat → Int
  | 0 => 0
  | n + 1 => prI K s n + ((pop (rch K s n) : Nat) - 1)
theorem prI_in {K : Lay} {s : Nat} : ∀ n : Nat, n ≤ 8 → 0 ≤ prI K s n ∧ prI K s n ≤ 8 * n := by
  intro n
  induction n with
  | zero => intro _; exact ⟨Int.le_refl 0, Int.le_refl 0⟩
  | succ n ih =>
    intro h
    have h1 := ih (by omega)
    have h2 := popN_pos (rch_self K s n) 8 (by omega)
    have h3 := popN_le (rch K s n) 8
    unfold prI
    have e1 : ((pop (rch K s n) : Nat) : Int) = (popN (rch K s n) 8 : Nat) := rfl
    omega
def hpI (K : Lay) (s : Nat) : Nat → Int × Nat
  | 0 => (0, 0)
  | n + 1 => ((hpI K s n).1 + (if (hpI K s n).2.testBit n = true then 0 else 1), (hpI K s n).2 ||| rch K s n)
theorem hpI_in {K : Lay} (hK : vK K) {s : Nat} : ∀ n : Nat, n ≤ 8 → (0 ≤ (hpI K s n).1 ∧ (hpI K s n).1 ≤ n) ∧ (hpI K s n).2 < 256 := by
  intro n
  induction n with
  | zero => intro _; exact ⟨⟨Int.le_refl 0, Int.le_refl 0⟩, by show (0 : Nat) < 256; decide⟩
  | succ n ih =>
    intro h
    obtain ⟨h1, h2⟩ := ih (by omega)
    unfold hpI
    refine ⟨?_, Nat.or_lt_two_pow (n := 8) h2 (rch_lt hK (by omega))⟩
    dsimp only
    split <;> omega
theorem l153 {nat : gNat} {d : Nat} {w : gWd} {x : Nat} {M K : Lay} (hx : x + 12 < gSTR) (hL : mLaw K (M 5)) (hK : vK K) {s P : Nat} (hs : s < 256) (hP : P < 256) {N : Nat} (hN : (N : Int) = K 0 1) : ∀ (k n : Nat) (z : Option Value), n + k = N → gX (gC nat (d + 1)) nat 153 5 [some (.ref x), some (.int (J P)), some (.int (J s)), some (.int (J (onw K s P n))), some (.int (J n)), z] [] [] (putM w x M) = some (some (.int (J (onw K s P N))), (putM w x M)) := by
  obtain ⟨k0, k1, k2, k3, k4, kg, kd, kr⟩ := id hK
  obtain ⟨f0, f1, f2, f3, f4, fr, fg, fd⟩ := id hL
  intro k
  induction k with
  | zero =>
    intro n z hn
    rw [Nat.add_zero] at hn
    subst hn
    rw [e153_5]
    simp (disch := first | omega | exact Nat.le_of_ble_eq_true rfl) only [e153_0, e153_1, e153_2, e153_3, e153_7, e153_8, e153_11, e153_12, e153_13, e153_16, e153_17, e153_18, e153_20, e153_21, e153_24, e153_25, e153_26, e153_27, e153_29, e153_30, e153_33, e153_34, e153_35, e153_37, e153_38, e153_39, e153_41, e153_44, e153_47, e153_48, e153_50, e153_51, e153_54, e153_56, e153_59, e153_60, e153_61, e153_62, e153_65, e153_68, e153_69, J_add, J_sub, J_mul, J_neg, J_lt, J_le, J_eq, gArr_J, gAst_J, gSiz_J, gFld_o, gUpd_o0, gUpd_o1, gUpd_o2, gUpd_o3, gUpd_o4, gUpd_o5, gUpd_o6, gUpd_o7, gUpd_o8, gUpd_o9, gUpd_o10, gUpd_o11, gUpd_o12, gUpd_o13, gUpd_o14, gUpd_o15, gUpd_o16, gUpd_o17, gUpd_o18, gIsO_o, Option.bind_some, List.getElem?_cons_zero, List.getElem?_cons_succ, List.length_cons, List.length_nil, List.set_cons_zero, List.set_cons_succ, gCat_nil, gCat_int, gCat_ref, if_pos, if_neg, Option.toList_some, Option.toList_none, List.cons_append, List.nil_append, B_nar, J1_nar, J0_nar, if_true, if_false, rd_wr_same, rd_wr_ne, true_and, and_true, B_0, B_1, not_true_eq_false, not_false_eq_true, rdM0, rdM1, rdM2, rdM3, rdM4, rdM5, rdM6, rdM7, rdM8, rdM9, rdM10, rdM11, rdM12, rset_at, rset_ne, rset_rset, w0M, wZ1, wZ2, wZ3, wZ4, wZ5, wZ6, wZ7, wZ8, wZ9, wZ10, wZ11, wZ12, f7_0, f7_1, f7_2, f7_3, f7_4, f7_5, f7_6, f1]
  | succ k ih =>
    intro n z hn
    obtain ⟨q0, q1, q2, -⟩ := kg n (by omega) (by omega)
    have c1 := s141 (nat := nat) (d := d) (w := w) hx hL hK (g := n) (i := 1) (by omega) (by omega)
    have c2 := s141 (nat := nat) (d := d) (w := w) hx hL hK (g := n) (i := 2) (by omega) (by omega)
    have c3 := s123 (nat := nat) (d := d) (w := (putM w x M)) (s := s) (g := n) (by omega) (by omega)
    rw [Int.toNat_natCast] at c3
    have e1 : J 1 <<< (J (K 1 (5 * (n : Int) + 1)) &&& 31) ||| J 1 <<< (J (K 1 (5 * (n : Int) + 2)) &&& 31) = J ((ends K n : Nat) : Int) := by rw [J_shl (by omega), J_shl (by omega), J_or]; rfl
    have hE := ends_lt hK (g := n) (by omega)
    have e2 : (J (P : Int) &&& J ((ends K n : Nat) : Int) = J 0) = (P &&& ends K n = 0) := by
      rw [J_and, show J 0 = J ((0 : Nat) : Int) from rfl, J_eqN (Nat.lt_of_le_of_lt Nat.and_le_left (by omega)) (by decide)]
    have e3 := J_or (onw K s P n) (ends K n)
    have e0 : J ((onw K s P n : Nat) : Int) ||| J 0 = J ((onw K s P n : Nat) : Int) := by
      have h := J_or (onw K s P n) 0
      rw [Nat.or_zero] at h
      exact h
    have this := fun z => ih (n + 1) z (by omega)
    rw [show ((n + 1 : Nat) : Int) = (n : Int) + 1 from rfl, onw] at this
    rw [e153_5]
    by_cases h1 : s.testBit n = true
    · rw [B_pos h1] at c3
      by_cases h2 : P &&& ends K n = 0
      · rw [if_neg (fun q => q.2 h2)] at this
        simp (disch := first | omega | exact Nat.le_of_ble_eq_true rfl) only [e153_0, e153_1, e153_2, e153_3, e153_7, e153_8, e153_11, e153_12, e153_13, e153_16, e153_17, e153_18, e153_20, e153_21, e153_24, e153_25, e153_26, e153_27, e153_29, e153_30, e153_33, e153_34, e153_35, e153_37, e153_38, e153_39, e153_41, e153_44, e153_47, e153_48, e153_50, e153_51, e153_54, e153_56, e153_59, e153_60, e153_61, e153_62, e153_65, e153_68, e153_69, J_add, J_sub, J_mul, J_neg, J_lt, J_le, J_eq, gArr_J, gAst_J, gSiz_J, gFld_o, gUpd_o0, gUpd_o1, gUpd_o2, gUpd_o3, gUpd_o4, gUpd_o5, gUpd_o6, gUpd_o7, gUpd_o8, gUpd_o9, gUpd_o10, gUpd_o11, gUpd_o12, gUpd_o13, gUpd_o14, gUpd_o15, gUpd_o16, gUpd_o17, gUpd_o18, gIsO_o, Option.bind_some, List.getElem?_cons_zero, List.getElem?_cons_succ, List.length_cons, List.length_nil, List.set_cons_zero, List.set_cons_succ, gCat_nil, gCat_int, gCat_ref, if_pos, if_neg, Option.toList_some, Option.toList_none, List.cons_append, List.nil_append, B_nar, J1_nar, J0_nar, if_true, if_false, rd_wr_same, rd_wr_ne, true_and, and_true, B_0, B_1, not_true_eq_false, not_false_eq_true, rdM0, rdM1, rdM2, rdM3, rdM4, rdM5, rdM6, rdM7, rdM8, rdM9, rdM10, rdM11, rdM12, rset_at, rset_ne, rset_rset, w0M, wZ1, wZ2, wZ3, wZ4, wZ5, wZ6, wZ7, wZ8, wZ9, wZ10, wZ11, wZ12, f7_0, f7_1, f7_2, f7_3, f7_4, f7_5, f7_6, f1, c1, c2, c3, e1, e2, e0, h2, this]
      · rw [if_pos ⟨h1, h2⟩] at this
        simp (disch := first | omega | exact Nat.le_of_ble_eq_true rfl) only [e153_0, e153_1, e153_2, e153_3, e153_7, e153_8, e153_11, e153_12, e153_13, e153_16, e153_17, e153_18, e153_20, e153_21, e153_24, e153_25, e153_26, e153_27, e153_29, e153_30, e153_33, e153_34, e153_35, e153_37, e153_38, e153_39, e153_41, e153_44, e153_47, e153_48, e153_50, e153_51, e153_54, e153_56, e153_59, e153_60, e153_61, e153_62, e153_65, e153_68, e153_69, J_add, J_sub, J_mul, J_neg, J_lt, J_le, J_eq, gArr_J, gAst_J, gSiz_J, gFld_o, gUpd_o0, gUpd_o1, gUpd_o2, gUpd_o3, gUpd_o4, gUpd_o5, gUpd_o6, gUpd_o7, gUpd_o8, gUpd_o9, gUpd_o10, gUpd_o11, gUpd_o12, gUpd_o13, gUpd_o14, gUpd_o15, gUpd_o16, gUpd_o17, gUpd_o18, gIsO_o, Option.bind_some, List.getElem?_cons_zero, List.getElem?_cons_succ, List.length_cons, List.length_nil, List.set_cons_zero, List.set_cons_succ, gCat_nil, gCat_int, gCat_ref, if_pos, if_neg, Option.toList_some, Option.toList_none, List.cons_append, List.nil_append, B_nar, J1_nar, J0_nar, if_true, if_false, rd_wr_same, rd_wr_ne, true_and, and_true, B_0, B_1, not_true_eq_false, not_false_eq_true, rdM0, rdM1, rdM2, rdM3, rdM4, rdM5, rdM6, rdM7, rdM8, rdM9, rdM10, rdM11, rdM12, rset_at, rset_ne, rset_rset, w0M, wZ1, wZ2, wZ3, wZ4, wZ5, wZ6, wZ7, wZ8, wZ9, wZ10, wZ11, wZ12, f7_0, f7_1, f7_2, f7_3, f7_4, f7_5, f7_6, f1, c1, c2, c3, e1, e2, e3, h2, this]
    · rw [B_neg h1] at c3
      rw [if_neg (fun q => h1 q.1)] at this
      simp (disch := first | omega | exact Nat.le_of_ble_eq_true rfl) only [e153_0, e153_1, e153_2, e153_3, e153_7, e153_8, e153_11, e153_12, e153_13, e153_16, e153_17, e153_18, e153_20, e153_21, e153_24, e153_25, e153_26, e153_27, e153_29, e153_30, e153_33, e153_34, e153_35, e153_37, e153_38, e153_39, e153_41, e153_44, e153_47, e153_48, e153_50, e153_51, e153_54, e153_56, e153_59, e153_60, e153_61, e153_62, e153_65, e153_68, e153_69, J_add, J_sub, J_mul, J_neg, J_lt, J_le, J_eq, gArr_J, gAst_J, gSiz_J, gFld_o, gUpd_o0, gUpd_o1, gUpd_o2, gUpd_o3, gUpd_o4, gUpd_o5, gUpd_o6, gUpd_o7, gUpd_o8, gUpd_o9, gUpd_o10, gUpd_o11, gUpd_o12, gUpd_o13, gUpd_o14, gUpd_o15, gUpd_o16, gUpd_o17, gUpd_o18, gIsO_o, Option.bind_some, List.getElem?_cons_zero, List.getElem?_cons_succ, List.length_cons, List.length_nil, List.set_cons_zero, List.set_cons_succ, gCat_nil, gCat_int, gCat_ref, if_pos, if_neg, Option.toList_some, Option.toList_none, List.cons_append, List.nil_append, B_nar, J1_nar, J0_nar, if_true, if_false, rd_wr_same, rd_wr_ne, true_and, and_true, B_0, B_1, not_true_eq_false, not_false_eq_true, rdM0, rdM1, rdM2, rdM3, rdM4, rdM5, rdM6, rdM7, rdM8, rdM9, rdM10, rdM11, rdM12, rset_at, rset_ne, rset_rset, w0M, wZ1, wZ2, wZ3, wZ4, wZ5, wZ6, wZ7, wZ8, wZ9, wZ10, wZ11, wZ12, f7_0, f7_1, f7_2, f7_3, f7_4, f7_5, f7_6, f1, c1, c2, c3, e1, e0, this]


theorem s153 {nat : gNat} {d : Nat} {w : gWd} {x : Nat} {M K : Lay} (hx : x + 12 < gSTR) (hL : mLaw K (M 5)) (hK : vK K) {s P : Nat} (hs : s < 256) (hP : P < 256)  : gC nat (d + 2) 153 [.ref x, .int (J P), .int (J s)] (putM w x M) = some (some (.int (J (onw K s P (K 0 1).toNat))), (putM w x M)) := by
  obtain ⟨k0, k1, k2, k3, k4, kg, kd, kr⟩ := id hK
  obtain ⟨f0, f1, f2, f3, f4, fr, fg, fd⟩ := id hL
  have h := l153 (nat := nat) (d := d) (w := w) hx hL hK hs hP (N := (K 0 1).toNat) (by omega) (K 0 1).toNat 0 none (by omega)
  rw [onw, show ((0 : Nat) : Int) = 0 from rfl] at h
  rw [en153]
  simp (disch := first | omega | exact Nat.le_of_ble_eq_true rfl) only [e153_0, e153_1, e153_2, e153_3, e153_7, e153_8, e153_11, e153_12, e153_13, e153_16, e153_17, e153_18, e153_20, e153_21, e153_24, e153_25, e153_26, e153_27, e153_29, e153_30, e153_33, e153_34, e153_35, e153_37, e153_38, e153_39, e153_41, e153_44, e153_47, e153_48, e153_50, e153_51, e153_54, e153_56, e153_59, e153_60, e153_61, e153_62, e153_65, e153_68, e153_69, J_add, J_sub, J_mul, J_neg, J_lt, J_le, J_eq, gArr_J, gAst_J, gSiz_J, gFld_o, gUpd_o0, gUpd_o1, gUpd_o2, gUpd_o3, gUpd_o4, gUpd_o5, gUpd_o6, gUpd_o7, gUpd_o8, gUpd_o9, gUpd_o10, gUpd_o11, gUpd_o12, gUpd_o13, gUpd_o14, gUpd_o15, gUpd_o16, gUpd_o17, gUpd_o18, gIsO_o, Option.bind_some, List.getElem?_cons_zero, List.getElem?_cons_succ, List.length_cons, List.length_nil, List.set_cons_zero, List.set_cons_succ, gCat_nil, gCat_int, gCat_ref, if_pos, if_neg, Option.toList_some, Option.toList_none, List.cons_append, List.nil_append, B_nar, J1_nar, J0_nar, if_true, if_false, rd_wr_same, rd_wr_ne, true_and, and_true, B_0, B_1, not_true_eq_false, not_false_eq_true, rdM0, rdM1, rdM2, rdM3, rdM4, rdM5, rdM6, rdM7, rdM8, rdM9, rdM10, rdM11, rdM12, rset_at, rset_ne, rset_rset, w0M, wZ1, wZ2, wZ3, wZ4, wZ5, wZ6, wZ7, wZ8, wZ9, wZ10, wZ11, wZ12, f7_0, f7_1, f7_2, f7_3, f7_4, f7_5, f7_6, h]

theorem l154 {nat : gNat} {d : Nat} {w : gWd} {x : Nat} {M K : Lay} (hx : x + 12 < gSTR) (hL : mLaw K (M 5)) (hK : vK K) {s P : Nat} (hs : s < 256) (hP : P < 256) {z1 : Option Value} {N : Nat} (hN : (N : Int) = K 0 0) : ∀ (k n : Nat), n + k = N → gX (gC nat (d + 2)) nat 154 7 [some (.ref x), z1, some (.int (J s)), some (.int (J (rcI K s P n))), some (.int (J n))] [] [] (putM w x M) = some (some (.int (J (rcI K s P N))), (putM w x M)) := by
  obtain ⟨k0, k1, k2, k3, k4, kg, kd, kr⟩ := id hK
  obtain ⟨f0, f1, f2, f3, f4, fr, fg, fd⟩ := id hL
  intro k
  induction k with
  | zero =>
    intro n hn
    rw [Nat.add_zero] at hn
    subst hn
    rw [e154_7]
    simp (disch := first | omega | exact Nat.le_of_ble_eq_true rfl) only [e154_0, e154_1, e154_2, e154_3, e154_4, e154_5, e154_9, e154_10, e154_13, e154_14, e154_15, e154_18, e154_19, e154_20, e154_21, e154_24, e154_25, e154_28, e154_31, e154_32, J_add, J_sub, J_mul, J_neg, J_lt, J_le, J_eq, gArr_J, gAst_J, gSiz_J, gFld_o, gUpd_o0, gUpd_o1, gUpd_o2, gUpd_o3, gUpd_o4, gUpd_o5, gUpd_o6, gUpd_o7, gUpd_o8, gUpd_o9, gUpd_o10, gUpd_o11, gUpd_o12, gUpd_o13, gUpd_o14, gUpd_o15, gUpd_o16, gUpd_o17, gUpd_o18, gIsO_o, Option.bind_some, List.getElem?_cons_zero, List.getElem?_cons_succ, List.length_cons, List.length_nil, List.set_cons_zero, List.set_cons_succ, gCat_nil, gCat_int, gCat_ref, if_pos, if_neg, Option.toList_some, Option.toList_none, List.cons_append, List.nil_append, B_nar, J1_nar, J0_nar, if_true, if_false, rd_wr_same, rd_wr_ne, true_and, and_true, B_0, B_1, not_true_eq_false, not_false_eq_true, rdM0, rdM1, rdM2, rdM3, rdM4, rdM5, rdM6, rdM7, rdM8, rdM9, rdM10, rdM11, rdM12, rset_at, rset_ne, rset_rset, w0M, wZ1, wZ2, wZ3, wZ4, wZ5, wZ6, wZ7, wZ8, wZ9, wZ10, wZ11, wZ12, f7_0, f7_1, f7_2, f7_3, f7_4, f7_5, f7_6, f0]
  | succ k ih =>
    intro n hn
    have c1 := s153 (nat := nat) (d := d) (w := w) hx hL hK hs (rcI_lt hK hP (s := s) n)
    have this := ih (n + 1) (by omega)
    rw [show ((n + 1 : Nat) : Int) = (n : Int) + 1 from rfl, rcI] at this
    rw [e154_7]
    simp (disch := first | omega | exact Nat.le_of_ble_eq_true rfl) only [e154_0, e154_1, e154_2, e154_3, e154_4, e154_5, e154_9, e154_10, e154_13, e154_14, e154_15, e154_18, e154_19, e154_20, e154_21, e154_24, e154_25, e154_28, e154_31, e154_32, J_add, J_sub, J_mul, J_neg, J_lt, J_le, J_eq, gArr_J, gAst_J, gSiz_J, gFld_o, gUpd_o0, gUpd_o1, gUpd_o2, gUpd_o3, gUpd_o4, gUpd_o5, gUpd_o6, gUpd_o7, gUpd_o8, gUpd_o9, gUpd_o10, gUpd_o11, gUpd_o12, gUpd_o13, gUpd_o14, gUpd_o15, gUpd_o16, gUpd_o17, gUpd_o18, gIsO_o, Option.bind_some, List.getElem?_cons_zero, List.getElem?_cons_succ, List.length_cons, List.length_nil, List.set_cons_zero, List.set_cons_succ, gCat_nil, gCat_int, gCat_ref, if_pos, if_neg, Option.toList_some, Option.toList_none, List.cons_append, List.nil_append, B_nar, J1_nar, J0_nar, if_true, if_false, rd_wr_same, rd_wr_ne, true_and, and_true, B_0, B_1, not_true_eq_false, not_false_eq_true, rdM0, rdM1, rdM2, rdM3, rdM4, rdM5, rdM6, rdM7, rdM8, rdM9, rdM10, rdM11, rdM12, rset_at, rset_ne, rset_rset, w0M, wZ1, wZ2, wZ3, wZ4, wZ5, wZ6, wZ7, wZ8, wZ9, wZ10, wZ11, wZ12, f7_0, f7_1, f7_2, f7_3, f7_4, f7_5, f7_6, f0, c1, this]


theorem s154 {nat : gNat} {d : Nat} {w : gWd} {x : Nat} {M K : Lay} (hx : x + 12 < gSTR) (hL : mLaw K (M 5)) (hK : vK K) {s : Nat} (hs : s < 256) {a : Int} (ha : 0 ≤ a ∧ a < K 0 0)  : gC nat (d + 3) 154 [.ref x, .int (J a), .int (J s)] (putM w x M) = some (some (.int (J (rch K s a.toNat))), (putM w x M)) := by
  obtain ⟨k0, k1, k2, k3, k4, kg, kd, kr⟩ := id hK
  obtain ⟨f0, f1, f2, f3, f4, fr, fg, fd⟩ := id hL
  have h := l154 (nat := nat) (d := d) (w := w) hx hL hK hs (P := 2 ^ a.toNat) (pow8 (by omega)) (z1 := some (.int (J a))) (N := (K 0 0).toNat) (by omega) (K 0 0).toNat 0 (by omega)
  rw [rcI, show ((0 : Nat) : Int) = 0 from rfl] at h
  have e1 := J_shl (g := a) (by omega)
  rw [en154]
  simp (disch := first | omega | exact Nat.le_of_ble_eq_true rfl) only [e154_0, e154_1, e154_2, e154_3, e154_4, e154_5, e154_9, e154_10, e154_13, e154_14, e154_15, e154_18, e154_19, e154_20, e154_21, e154_24, e154_25, e154_28, e154_31, e154_32, J_add, J_sub, J_mul, J_neg, J_lt, J_le, J_eq, gArr_J, gAst_J, gSiz_J, gFld_o, gUpd_o0, gUpd_o1, gUpd_o2, gUpd_o3, gUpd_o4, gUpd_o5, gUpd_o6, gUpd_o7, gUpd_o8, gUpd_o9, gUpd_o10, gUpd_o11, gUpd_o12, gUpd_o13, gUpd_o14, gUpd_o15, gUpd_o16, gUpd_o17, gUpd_o18, gIsO_o, Option.bind_some, List.getElem?_cons_zero, List.getElem?_cons_succ, List.length_cons, List.length_nil, List.set_cons_zero, List.set_cons_succ, gCat_nil, gCat_int, gCat_ref, if_pos, if_neg, Option.toList_some, Option.toList_none, List.cons_append, List.nil_append, B_nar, J1_nar, J0_nar, if_true, if_false, rd_wr_same, rd_wr_ne, true_and, and_true, B_0, B_1, not_true_eq_false, not_false_eq_true, rdM0, rdM1, rdM2, rdM3, rdM4, rdM5, rdM6, rdM7, rdM8, rdM9, rdM10, rdM11, rdM12, rset_at, rset_ne, rset_rset, w0M, wZ1, wZ2, wZ3, wZ4, wZ5, wZ6, wZ7, wZ8, wZ9, wZ10, wZ11, wZ12, f7_0, f7_1, f7_2, f7_3, f7_4, f7_5, f7_6, e1, h]

theorem l155 {nat : gNat} {d : Nat} {w : gWd} {x : Nat} {M K : Lay} (hx : x + 12 < gSTR) (hL : mLaw K (M 5)) (hK : vK K) {s : Nat} (hs : s < 256) {N : Nat} (hN : (N : Int) = K 0 0) : ∀ (k n : Nat), n + k = N → gX (gC nat (d + 3)) nat 155 4 [some (.ref x), some (.int (J s)), some (.int (J (prI K s n))), some (.int (J n))] [] [] (putM w x M) = some (some (.int (J (prI K s N / 2))), (putM w x M)) := by
  obtain ⟨k0, k1, k2, k3, k4, kg, kd, kr⟩ := id hK
  obtain ⟨f0, f1, f2, f3, f4, fr, fg, fd⟩ := id hL
  intro k
  induction k with
  | zero =>
    intro n hn
    rw [Nat.add_zero] at hn
    subst hn
    have hp := prI_in (K := K) (s := s) n (by omega)
    rw [e155_4]
    simp (disch := first | omega | exact Nat.le_of_ble_eq_true rfl) only [e155_0, e155_1, e155_2, e155_3, e155_5, e155_6, e155_9, e155_10, e155_11, e155_14, e155_15, e155_16, e155_17, e155_18, e155_21, e155_24, e155_25, e155_26, e155_27, e155_28, e155_31, e155_34, e155_35, e155_36, e155_37, J_add, J_sub, J_mul, J_neg, J_lt, J_le, J_eq, gArr_J, gAst_J, gSiz_J, gFld_o, gUpd_o0, gUpd_o1, gUpd_o2, gUpd_o3, gUpd_o4, gUpd_o5, gUpd_o6, gUpd_o7, gUpd_o8, gUpd_o9, gUpd_o10, gUpd_o11, gUpd_o12, gUpd_o13, gUpd_o14, gUpd_o15, gUpd_o16, gUpd_o17, gUpd_o18, gIsO_o, Option.bind_some, List.getElem?_cons_zero, List.getElem?_cons_succ, List.length_cons, List.length_nil, List.set_cons_zero, List.set_cons_succ, gCat_nil, gCat_int, gCat_ref, if_pos, if_neg, Option.toList_some, Option.toList_none, List.cons_append, List.nil_append, B_nar, J1_nar, J0_nar, if_true, if_false, rd_wr_same, rd_wr_ne, true_and, and_true, B_0, B_1, not_true_eq_false, not_false_eq_true, rdM0, rdM1, rdM2, rdM3, rdM4, rdM5, rdM6, rdM7, rdM8, rdM9, rdM10, rdM11, rdM12, rset_at, rset_ne, rset_rset, w0M, wZ1, wZ2, wZ3, wZ4, wZ5, wZ6, wZ7, wZ8, wZ9, wZ10, wZ11, wZ12, f7_0, f7_1, f7_2, f7_3, f7_4, f7_5, f7_6, f0, J_div, J_ne0]
  | succ k ih =>
    intro n hn
    have c1 := s154 (nat := nat) (d := d) (w := w) hx hL hK hs (a := n) (by omega)
    rw [Int.toNat_natCast] at c1
    have c2 := s124 (nat := nat) (d := d + 2) (w := (putM w x M)) (rch_lt hK (s := s) (a := n) (by omega))
    have this := ih (n + 1) (by omega)
    rw [show ((n + 1 : Nat) : Int) = (n : Int) + 1 from rfl, prI] at this
    rw [e155_4]
    simp (disch := first | omega | exact Nat.le_of_ble_eq_true rfl) only [e155_0, e155_1, e155_2, e155_3, e155_5, e155_6, e155_9, e155_10, e155_11, e155_14, e155_15, e155_16, e155_17, e155_18, e155_21, e155_24, e155_25, e155_26, e155_27, e155_28, e155_31, e155_34, e155_35, e155_36, e155_37, J_add, J_sub, J_mul, J_neg, J_lt, J_le, J_eq, gArr_J, gAst_J, gSiz_J, gFld_o, gUpd_o0, gUpd_o1, gUpd_o2, gUpd_o3, gUpd_o4, gUpd_o5, gUpd_o6, gUpd_o7, gUpd_o8, gUpd_o9, gUpd_o10, gUpd_o11, gUpd_o12, gUpd_o13, gUpd_o14, gUpd_o15, gUpd_o16, gUpd_o17, gUpd_o18, gIsO_o, Option.bind_some, List.getElem?_cons_zero, List.getElem?_cons_succ, List.length_cons, List.length_nil, List.set_cons_zero, List.set_cons_succ, gCat_nil, gCat_int, gCat_ref, if_pos, if_neg, Option.toList_some, Option.toList_none, List.cons_append, List.nil_append, B_nar, J1_nar, J0_nar, if_true, if_false, rd_wr_same, rd_wr_ne, true_and, and_true, B_0, B_1, not_true_eq_false, not_false_eq_true, rdM0, rdM1, rdM2, rdM3, rdM4, rdM5, rdM6, rdM7, rdM8, rdM9, rdM10, rdM11, rdM12, rset_at, rset_ne, rset_rset, w0M, wZ1, wZ2, wZ3, wZ4, wZ5, wZ6, wZ7, wZ8, wZ9, wZ10, wZ11, wZ12, f7_0, f7_1, f7_2, f7_3, f7_4, f7_5, f7_6, f0, c1, c2, this]


theorem s155 {nat : gNat} {d : Nat} {w : gWd} {x : Nat} {M K : Lay} (hx : x + 12 < gSTR) (hL : mLaw K (M 5)) (hK : vK K) {s : Nat} (hs : s < 256)  : gC nat (d + 4) 155 [.ref x, .int (J s)] (putM w x M) = some (some (.int (J (prI K s (K 0 0).toNat / 2))), (putM w x M)) := by
  obtain ⟨k0, k1, k2, k3, k4, kg, kd, kr⟩ := id hK
  obtain ⟨f0, f1, f2, f3, f4, fr, fg, fd⟩ := id hL
  have h := l155 (nat := nat) (d := d) (w := w) hx hL hK hs (N := (K 0 0).toNat) (by omega) (K 0 0).toNat 0 (by omega)
  rw [prI, show ((0 : Nat) : Int) = 0 from rfl] at h
  rw [en155]
  simp (disch := first | omega | exact Nat.le_of_ble_eq_true rfl) only [e155_0, e155_1, e155_2, e155_3, e155_5, e155_6, e155_9, e155_10, e155_11, e155_14, e155_15, e155_16, e155_17, e155_18, e155_21, e155_24, e155_25, e155_26, e155_27, e155_28, e155_31, e155_34, e155_35, e155_36, e155_37, J_add, J_sub, J_mul, J_neg, J_lt, J_le, J_eq, gArr_J, gAst_J, gSiz_J, gFld_o, gUpd_o0, gUpd_o1, gUpd_o2, gUpd_o3, gUpd_o4, gUpd_o5, gUpd_o6, gUpd_o7, gUpd_o8, gUpd_o9, gUpd_o10, gUpd_o11, gUpd_o12, gUpd_o13, gUpd_o14, gUpd_o15, gUpd_o16, gUpd_o17, gUpd_o18, gIsO_o, Option.bind_some, List.getElem?_cons_zero, List.getElem?_cons_succ, List.length_cons, List.length_nil, List.set_cons_zero, List.set_cons_succ, gCat_nil, gCat_int, gCat_ref, if_pos, if_neg, Option.toList_some, Option.toList_none, List.cons_append, List.nil_append, B_nar, J1_nar, J0_nar, if_true, if_false, rd_wr_same, rd_wr_ne, true_and, and_true, B_0, B_1, not_true_eq_false, not_false_eq_true, rdM0, rdM1, rdM2, rdM3, rdM4, rdM5, rdM6, rdM7, rdM8, rdM9, rdM10, rdM11, rdM12, rset_at, rset_ne, rset_rset, w0M, wZ1, wZ2, wZ3, wZ4, wZ5, wZ6, wZ7, wZ8, wZ9, wZ10, wZ11, wZ12, f7_0, f7_1, f7_2, f7_3, f7_4, f7_5, f7_6, h]

theorem l156 {nat : gNat} {d : Nat} {w : gWd} {x : Nat} {M K : Lay} (hx : x + 12 < gSTR) (hL : mLaw K (M 5)) (hK : vK K) {s : Nat} (hs : s < 256) {N : Nat} (hN : (N : Int) = K 0 0) : ∀ (k n : Nat), n + k = N → gX (gC nat (d + 3)) nat 156 7 [some (.ref x), some (.int (J s)), some (.int (J (hpI K s n).1)), some (.int (J (hpI K s n).2)), some (.int (J n))] [] [] (putM w x M) = some (some (.int (J (hpI K s N).1)), (putM w x M)) := by
  obtain ⟨k0, k1, k2, k3, k4, kg, kd, kr⟩ := id hK
  obtain ⟨f0, f1, f2, f3, f4, fr, fg, fd⟩ := id hL
  intro k
  induction k with
  | zero =>
    intro n hn
    rw [Nat.add_zero] at hn
    subst hn
    rw [e156_7]
    simp (disch := first | omega | exact Nat.le_of_ble_eq_true rfl) only [e156_0, e156_1, e156_2, e156_3, e156_4, e156_5, e156_9, e156_10, e156_13, e156_14, e156_15, e156_18, e156_19, e156_20, e156_22, e156_25, e156_28, e156_29, e156_32, e156_33, e156_34, e156_35, e156_36, e156_37, e156_39, e156_40, e156_43, e156_44, e156_45, e156_48, e156_51, e156_52, J_add, J_sub, J_mul, J_neg, J_lt, J_le, J_eq, gArr_J, gAst_J, gSiz_J, gFld_o, gUpd_o0, gUpd_o1, gUpd_o2, gUpd_o3, gUpd_o4, gUpd_o5, gUpd_o6, gUpd_o7, gUpd_o8, gUpd_o9, gUpd_o10, gUpd_o11, gUpd_o12, gUpd_o13, gUpd_o14, gUpd_o15, gUpd_o16, gUpd_o17, gUpd_o18, gIsO_o, Option.bind_some, List.getElem?_cons_zero, List.getElem?_cons_succ, List.length_cons, List.length_nil, List.set_cons_zero, List.set_cons_succ, gCat_nil, gCat_int, gCat_ref, if_pos, if_neg, Option.toList_some, Option.toList_none, List.cons_append, List.nil_append, B_nar, J1_nar, J0_nar, if_true, if_false, rd_wr_same, rd_wr_ne, true_and, and_true, B_0, B_1, not_true_eq_false, not_false_eq_true, rdM0, rdM1, rdM2, rdM3, rdM4, rdM5, rdM6, rdM7, rdM8, rdM9, rdM10, rdM11, rdM12, rset_at, rset_ne, rset_rset, w0M, wZ1, wZ2, wZ3, wZ4, wZ5, wZ6, wZ7, wZ8, wZ9, wZ10, wZ11, wZ12, f7_0, f7_1, f7_2, f7_3, f7_4, f7_5, f7_6, f0]
  | succ k ih =>
    intro n hn
    have c1 := s154 (nat := nat) (d := d) (w := w) hx hL hK hs (a := n) (by omega)
    rw [Int.toNat_natCast] at c1
    obtain ⟨h1, h2⟩ := hpI_in hK (s := s) n (by omega)
    have c2 := s123 (nat := nat) (d := d + 2) (w := (putM w x M)) (s := (hpI K s n).2) (g := n) (by omega) (by omega)
    rw [Int.toNat_natCast] at c2
    have e3 := J_or (hpI K s n).2 (rch K s n)
    have this := ih (n + 1) (by omega)
    rw [show ((n + 1 : Nat) : Int) = (n : Int) + 1 from rfl, hpI] at this
    dsimp only at this
    rw [e156_7]
    by_cases q : (hpI K s n).2.testBit n = true
    · rw [B_pos q] at c2
      rw [if_pos q] at this
      simp (disch := first | omega | exact Nat.le_of_ble_eq_true rfl) only [e156_0, e156_1, e156_2, e156_3, e156_4, e156_5, e156_9, e156_10, e156_13, e156_14, e156_15, e156_18, e156_19, e156_20, e156_22, e156_25, e156_28, e156_29, e156_32, e156_33, e156_34, e156_35, e156_36, e156_37, e156_39, e156_40, e156_43, e156_44, e156_45, e156_48, e156_51, e156_52, J_add, J_sub, J_mul, J_neg, J_lt, J_le, J_eq, gArr_J, gAst_J, gSiz_J, gFld_o, gUpd_o0, gUpd_o1, gUpd_o2, gUpd_o3, gUpd_o4, gUpd_o5, gUpd_o6, gUpd_o7, gUpd_o8, gUpd_o9, gUpd_o10, gUpd_o11, gUpd_o12, gUpd_o13, gUpd_o14, gUpd_o15, gUpd_o16, gUpd_o17, gUpd_o18, gIsO_o, Option.bind_some, List.getElem?_cons_zero, List.getElem?_cons_succ, List.length_cons, List.length_nil, List.set_cons_zero, List.set_cons_succ, gCat_nil, gCat_int, gCat_ref, if_pos, if_neg, Option.toList_some, Option.toList_none, List.cons_append, List.nil_append, B_nar, J1_nar, J0_nar, if_true, if_false, rd_wr_same, rd_wr_ne, true_and, and_true, B_0, B_1, not_true_eq_false, not_false_eq_true, rdM0, rdM1, rdM2, rdM3, rdM4, rdM5, rdM6, rdM7, rdM8, rdM9, rdM10, rdM11, rdM12, rset_at, rset_ne, rset_rset, w0M, wZ1, wZ2, wZ3, wZ4, wZ5, wZ6, wZ7, wZ8, wZ9, wZ10, wZ11, wZ12, f7_0, f7_1, f7_2, f7_3, f7_4, f7_5, f7_6, f0, c1, c2, e3, this]
    · rw [B_neg q] at c2
      rw [if_neg q] at this
      simp (disch := first | omega | exact Nat.le_of_ble_eq_true rfl) only [e156_0, e156_1, e156_2, e156_3, e156_4, e156_5, e156_9, e156_10, e156_13, e156_14, e156_15, e156_18, e156_19, e156_20, e156_22, e156_25, e156_28, e156_29, e156_32, e156_33, e156_34, e156_35, e156_36, e156_37, e156_39, e156_40, e156_43, e156_44, e156_45, e156_48, e156_51, e156_52, J_add, J_sub, J_mul, J_neg, J_lt, J_le, J_eq, gArr_J, gAst_J, gSiz_J, gFld_o, gUpd_o0, gUpd_o1, gUpd_o2, gUpd_o3, gUpd_o4, gUpd_o5, gUpd_o6, gUpd_o7, gUpd_o8, gUpd_o9, gUpd_o10, gUpd_o11, gUpd_o12, gUpd_o13, gUpd_o14, gUpd_o15, gUpd_o16, gUpd_o17, gUpd_o18, gIsO_o, Option.bind_some, List.getElem?_cons_zero, List.getElem?_cons_succ, List.length_cons, List.length_nil, List.set_cons_zero, List.set_cons_succ, gCat_nil, gCat_int, gCat_ref, if_pos, if_neg, Option.toList_some, Option.toList_none, List.cons_append, List.nil_append, B_nar, J1_nar, J0_nar, if_true, if_false, rd_wr_same, rd_wr_ne, true_and, and_true, B_0, B_1, not_true_eq_false, not_false_eq_true, rdM0, rdM1, rdM2, rdM3, rdM4, rdM5, rdM6, rdM7, rdM8, rdM9, rdM10, rdM11, rdM12, rset_at, rset_ne, rset_rset, w0M, wZ1, wZ2, wZ3, wZ4, wZ5, wZ6, wZ7, wZ8, wZ9, wZ10, wZ11, wZ12, f7_0, f7_1, f7_2, f7_3, f7_4, f7_5, f7_6, f0, c1, c2, e3, this]


theorem s156 {nat : gNat} {d : Nat} {w : gWd} {x : Nat} {M K : Lay} (hx : x + 12 < gSTR) (hL : mLaw K (M 5)) (hK : vK K) {s : Nat} (hs : s < 256)  : gC nat (d + 4) 156 [.ref x, .int (J s)] (putM w x M) = some (some (.int (J (hpI K s (K 0 0).toNat).1)), (putM w x M)) := by
  obtain ⟨k0, k1, k2, k3, k4, kg, kd, kr⟩ := id hK
  obtain ⟨f0, f1, f2, f3, f4, fr, fg, fd⟩ := id hL
  have h := l156 (nat := nat) (d := d) (w := w) hx hL hK hs (N := (K 0 0).toNat) (by omega) (K 0 0).toNat 0 (by omega)
  rw [hpI, show ((0 : Nat) : Int) = 0 from rfl] at h
  rw [en156]
  simp (disch := first | omega | exact Nat.le_of_ble_eq_true rfl) only [e156_0, e156_1, e156_2, e156_3, e156_4, e156_5, e156_9, e156_10, e156_13, e156_14, e156_15, e156_18, e156_19, e156_20, e156_22, e156_25, e156_28, e156_29, e156_32, e156_33, e156_34, e156_35, e156_36, e156_37, e156_39, e156_40, e156_43, e156_44, e156_45, e156_48, e156_51, e156_52, J_add, J_sub, J_mul, J_neg, J_lt, J_le, J_eq, gArr_J, gAst_J, gSiz_J, gFld_o, gUpd_o0, gUpd_o1, gUpd_o2, gUpd_o3, gUpd_o4, gUpd_o5, gUpd_o6, gUpd_o7, gUpd_o8, gUpd_o9, gUpd_o10, gUpd_o11, gUpd_o12, gUpd_o13, gUpd_o14, gUpd_o15, gUpd_o16, gUpd_o17, gUpd_o18, gIsO_o, Option.bind_some, List.getElem?_cons_zero, List.getElem?_cons_succ, List.length_cons, List.length_nil, List.set_cons_zero, List.set_cons_succ, gCat_nil, gCat_int, gCat_ref, if_pos, if_neg, Option.toList_some, Option.toList_none, List.cons_append, List.nil_append, B_nar, J1_nar, J0_nar, if_true, if_false, rd_wr_same, rd_wr_ne, true_and, and_true, B_0, B_1, not_true_eq_false, not_false_eq_true, rdM0, rdM1, rdM2, rdM3, rdM4, rdM5, rdM6, rdM7, rdM8, rdM9, rdM10, rdM11, rdM12, rset_at, rset_ne, rset_rset, w0M, wZ1, wZ2, wZ3, wZ4, wZ5, wZ6, wZ7, wZ8, wZ9, wZ10, wZ11, wZ12, f7_0, f7_1, f7_2, f7_3, f7_4, f7_5, f7_6, h]

theorem s157 {nat : gNat} {d : Nat} {w : gWd} {x : Nat} {M K : Lay} (hx : x + 12 < gSTR) (hL : mLaw K (M 5)) (hK : vK K) {S : Lay} (hR : mRow K S (M 6)) (hS : vS K S) {a b : Int} (h_a : -2147483648 ≤ a ∧ a < 2147483648) (h_b : -2147483648 ≤ b ∧ b < 2147483648)  : gC nat (d + 4) 157 [.ref x, .int (J a), .int (J b)] (putM w x M) = some (some (.int (J (if okP K a ∧ okP K b then (if (rch K (cb K S) a.toNat).testBit b.toNat = true then 1 else 0) else -1))), (putM w x M)) := by
  obtain ⟨k0, k1, k2, k3, k4, kg, kd, kr⟩ := id hK
  obtain ⟨f0, f1, f2, f3, f4, fr, fg, fd⟩ := id hL
  have c1 := s140 (nat := nat) (d := d + 1) (w := w) hx hL hK h_a
  have c2 := s140 (nat := nat) (d := d + 1) (w := w) hx hL hK h_b
  rw [en157]
  by_cases q1 : 0 ≤ a ∧ a ≤ K 0 0 - 1
  · rw [B_pos q1] at c1
    by_cases q2 : 0 ≤ b ∧ b ≤ K 0 0 - 1
    · rw [B_pos q2] at c2
      rw [if_pos ⟨q1, q2⟩]
      have c3 := s143 (nat := nat) (d := d) (w := w) hx hL hK (r := 6) (Or.inl rfl) hR hS
      have c4 := s154 (nat := nat) (d := d) (w := w) hx hL hK (s := cb K S) (cbs_lt _ _ _ (by omega)) (a := a) (by omega)
      have e1 := J_bit (s := rch K (cb K S) a.toNat) (g := b) (by have := rch_lt hK (s := cb K S) (a := a.toNat) (by omega); omega) (by omega)
      have e2 : J (if (rch K (cb K S) a.toNat).testBit b.toNat = true then 1 else 0) = B ((rch K (cb K S) a.toNat).testBit b.toNat = true) := by
        unfold B
        split <;> rfl
      rw [e2]
      simp (disch := first | omega | exact Nat.le_of_ble_eq_true rfl) only [e157_0, e157_1, e157_2, e157_5, e157_8, e157_9, e157_10, e157_13, e157_16, e157_17, e157_18, e157_19, e157_20, e157_23, e157_26, e157_29, e157_30, e157_31, e157_32, e157_33, e157_36, e157_37, J_add, J_sub, J_mul, J_neg, J_lt, J_le, J_eq, gArr_J, gAst_J, gSiz_J, gFld_o, gUpd_o0, gUpd_o1, gUpd_o2, gUpd_o3, gUpd_o4, gUpd_o5, gUpd_o6, gUpd_o7, gUpd_o8, gUpd_o9, gUpd_o10, gUpd_o11, gUpd_o12, gUpd_o13, gUpd_o14, gUpd_o15, gUpd_o16, gUpd_o17, gUpd_o18, gIsO_o, Option.bind_some, List.getElem?_cons_zero, List.getElem?_cons_succ, List.length_cons, List.length_nil, List.set_cons_zero, List.set_cons_succ, gCat_nil, gCat_int, gCat_ref, if_pos, if_neg, Option.toList_some, Option.toList_none, List.cons_append, List.nil_append, B_nar, J1_nar, J0_nar, if_true, if_false, rd_wr_same, rd_wr_ne, true_and, and_true, B_0, B_1, not_true_eq_false, not_false_eq_true, rdM0, rdM1, rdM2, rdM3, rdM4, rdM5, rdM6, rdM7, rdM8, rdM9, rdM10, rdM11, rdM12, rset_at, rset_ne, rset_rset, w0M, wZ1, wZ2, wZ3, wZ4, wZ5, wZ6, wZ7, wZ8, wZ9, wZ10, wZ11, wZ12, f7_0, f7_1, f7_2, f7_3, f7_4, f7_5, f7_6, c1, c2, c3, c4, e1]
    · rw [B_neg q2] at c2
      rw [if_neg (fun z => q2 z.2)]
      simp (disch := first | omega | exact Nat.le_of_ble_eq_true rfl) only [e157_0, e157_1, e157_2, e157_5, e157_8, e157_9, e157_10, e157_13, e157_16, e157_17, e157_18, e157_19, e157_20, e157_23, e157_26, e157_29, e157_30, e157_31, e157_32, e157_33, e157_36, e157_37, J_add, J_sub, J_mul, J_neg, J_lt, J_le, J_eq, gArr_J, gAst_J, gSiz_J, gFld_o, gUpd_o0, gUpd_o1, gUpd_o2, gUpd_o3, gUpd_o4, gUpd_o5, gUpd_o6, gUpd_o7, gUpd_o8, gUpd_o9, gUpd_o10, gUpd_o11, gUpd_o12, gUpd_o13, gUpd_o14, gUpd_o15, gUpd_o16, gUpd_o17, gUpd_o18, gIsO_o, Option.bind_some, List.getElem?_cons_zero, List.getElem?_cons_succ, List.length_cons, List.length_nil, List.set_cons_zero, List.set_cons_succ, gCat_nil, gCat_int, gCat_ref, if_pos, if_neg, Option.toList_some, Option.toList_none, List.cons_append, List.nil_append, B_nar, J1_nar, J0_nar, if_true, if_false, rd_wr_same, rd_wr_ne, true_and, and_true, B_0, B_1, not_true_eq_false, not_false_eq_true, rdM0, rdM1, rdM2, rdM3, rdM4, rdM5, rdM6, rdM7, rdM8, rdM9, rdM10, rdM11, rdM12, rset_at, rset_ne, rset_rset, w0M, wZ1, wZ2, wZ3, wZ4, wZ5, wZ6, wZ7, wZ8, wZ9, wZ10, wZ11, wZ12, f7_0, f7_1, f7_2, f7_3, f7_4, f7_5, f7_6, c1, c2]
  · rw [B_neg q1] at c1
    rw [if_neg (fun z => q1 z.1)]
    simp (disch := first | omega | exact Nat.le_of_ble_eq_true rfl) only [e157_0, e157_1, e157_2, e157_5, e157_8, e157_9, e157_10, e157_13, e157_16, e157_17, e157_18, e157_19, e157_20, e157_23, e157_26, e157_29, e157_30, e157_31, e157_32, e157_33, e157_36, e157_37, J_add, J_sub, J_mul, J_neg, J_lt, J_le, J_eq, gArr_J, gAst_J, gSiz_J, gFld_o, gUpd_o0, gUpd_o1, gUpd_o2, gUpd_o3, gUpd_o4, gUpd_o5, gUpd_o6, gUpd_o7, gUpd_o8, gUpd_o9, gUpd_o10, gUpd_o11, gUpd_o12, gUpd_o13, gUpd_o14, gUpd_o15, gUpd_o16, gUpd_o17, gUpd_o18, gIsO_o, Option.bind_some, List.getElem?_cons_zero, List.getElem?_cons_succ, List.length_cons, List.length_nil, List.set_cons_zero, List.set_cons_succ, gCat_nil, gCat_int, gCat_ref, if_pos, if_neg, Option.toList_some, Option.toList_none, List.cons_append, List.nil_append, B_nar, J1_nar, J0_nar, if_true, if_false, rd_wr_same, rd_wr_ne, true_and, and_true, B_0, B_1, not_true_eq_false, not_false_eq_true, rdM0, rdM1, rdM2, rdM3, rdM4, rdM5, rdM6, rdM7, rdM8, rdM9, rdM10, rdM11, rdM12, rset_at, rset_ne, rset_rset, w0M, wZ1, wZ2, wZ3, wZ4, wZ5, wZ6, wZ7, wZ8, wZ9, wZ10, wZ11, wZ12, f7_0, f7_1, f7_2, f7_3, f7_4, f7_5, f7_6, c1]
