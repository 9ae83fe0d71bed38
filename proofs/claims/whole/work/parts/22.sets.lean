theorem s115 {nat : gNat} {d : Nat} {w : gWd} {s : Nat} {g : Int} (hs : s < 2147483648) (hg : 0 ≤ g ∧ g < 31) : gC nat (d + 1) 115 [.int (J s), .int (J g)] w = some (some (.int (B (s.testBit g.toNat = true))), w) := by
  rw [en115]
  simp (disch := first | omega | exact Nat.le_of_ble_eq_true rfl) only [e115_0, e115_1, e115_2, e115_3, e115_4, e115_5, J_add, J_sub, J_mul, J_neg, J_lt, J_le, J_eq, gArr_J, gAst_J, gSiz_J, gFld_o, gUpd_o0, gUpd_o1, gUpd_o2, gUpd_o3, gUpd_o4, gUpd_o5, gUpd_o6, gUpd_o7, gUpd_o8, gUpd_o9, gUpd_o10, gUpd_o11, gUpd_o12, gUpd_o13, gUpd_o14, gUpd_o15, gUpd_o16, gUpd_o17, gUpd_o18, gIsO_o, Option.bind_some, List.getElem?_cons_zero, List.getElem?_cons_succ, List.length_cons, List.length_nil, List.set_cons_zero, List.set_cons_succ, gCat_nil, gCat_int, gCat_ref, if_pos, if_neg, Option.toList_some, Option.toList_none, List.cons_append, List.nil_append, B_nar, J1_nar, J0_nar, if_true, if_false, rd_wr_same, rd_wr_ne, true_and, and_true, B_0, B_1, not_true_eq_false, not_false_eq_true, J_bit hs hg]

theorem s114 {nat : gNat} {d : Nat} {w : gWd} {s : Nat} {g : Int} (hs : s < 2147483648) (hg : 0 ≤ g ∧ g < 31) : gC nat (d + 2) 114 [.int (J s), .int (J g)] w = some (some (.int (B (s.testBit g.toNat = true))), w) := by
  rw [en114]
  have c := s115 (nat := nat) (d := d) (w := w) hs hg
  by_cases h : s.testBit g.toNat = true
  · rw [B_pos h] at c ⊢
    simp (disch := first | omega | exact Nat.le_of_ble_eq_true rfl) only [e114_0, e114_1, e114_2, e114_5, e114_6, e114_9, e114_10, e114_13, e114_14, J_add, J_sub, J_mul, J_neg, J_lt, J_le, J_eq, gArr_J, gAst_J, gSiz_J, gFld_o, gUpd_o0, gUpd_o1, gUpd_o2, gUpd_o3, gUpd_o4, gUpd_o5, gUpd_o6, gUpd_o7, gUpd_o8, gUpd_o9, gUpd_o10, gUpd_o11, gUpd_o12, gUpd_o13, gUpd_o14, gUpd_o15, gUpd_o16, gUpd_o17, gUpd_o18, gIsO_o, Option.bind_some, List.getElem?_cons_zero, List.getElem?_cons_succ, List.length_cons, List.length_nil, List.set_cons_zero, List.set_cons_succ, gCat_nil, gCat_int, gCat_ref, if_pos, if_neg, Option.toList_some, Option.toList_none, List.cons_append, List.nil_append, B_nar, J1_nar, J0_nar, if_true, if_false, rd_wr_same, rd_wr_ne, true_and, and_true, B_0, B_1, not_true_eq_false, not_false_eq_true, c]
  · rw [B_neg h] at c ⊢
    simp (disch := first | omega | exact Nat.le_of_ble_eq_true rfl) only [e114_0, e114_1, e114_2, e114_5, e114_6, e114_9, e114_10, e114_13, e114_14, J_add, J_sub, J_mul, J_neg, J_lt, J_le, J_eq, gArr_J, gAst_J, gSiz_J, gFld_o, gUpd_o0, gUpd_o1, gUpd_o2, gUpd_o3, gUpd_o4, gUpd_o5, gUpd_o6, gUpd_o7, gUpd_o8, gUpd_o9, gUpd_o10, gUpd_o11, gUpd_o12, gUpd_o13, gUpd_o14, gUpd_o15, gUpd_o16, gUpd_o17, gUpd_o18, gIsO_o, Option.bind_some, List.getElem?_cons_zero, List.getElem?_cons_succ, List.length_cons, List.length_nil, List.set_cons_zero, List.set_cons_succ, gCat_nil, gCat_int, gCat_ref, if_pos, if_neg, Option.toList_some, Option.toList_none, List.cons_append, List.nil_append, B_nar, J1_nar, J0_nar, if_true, if_false, rd_wr_same, rd_wr_ne, true_and, and_true, B_0, B_1, not_true_eq_false, not_false_eq_true, c]

theorem s21 {nat : gNat} {d : Nat} {w : gWd} {m : Nat} {K : Lay} {h : Int} (hm : isMe w m K) (hK : vK K) (hh : 0 ≤ h ∧ h < 2147483648) : gC nat (d + 1) 21 [.ref m, .int (J h)] w = some (some (.int (J (if 24 ≤ K 0 3 then 24 else if 0 < K 0 3 - h % 24 then K 0 3 - h % 24 else 0))), w) := by
  rw [en21]
  obtain ⟨m0, m1, m2, m3, m4⟩ := id hm
  obtain ⟨k0, k1, k2, k3, k4, kg, kd, kr⟩ := id hK
  by_cases h1 : 24 ≤ K 0 3
  · rw [if_pos h1]
    simp (disch := first | omega | exact Nat.le_of_ble_eq_true rfl) only [e21_0, e21_1, e21_4, e21_6, e21_9, e21_11, e21_14, e21_15, e21_16, e21_19, e21_20, e21_22, e21_23, e21_24, e21_27, J_add, J_sub, J_mul, J_neg, J_lt, J_le, J_eq, gArr_J, gAst_J, gSiz_J, gFld_o, gUpd_o0, gUpd_o1, gUpd_o2, gUpd_o3, gUpd_o4, gUpd_o5, gUpd_o6, gUpd_o7, gUpd_o8, gUpd_o9, gUpd_o10, gUpd_o11, gUpd_o12, gUpd_o13, gUpd_o14, gUpd_o15, gUpd_o16, gUpd_o17, gUpd_o18, gIsO_o, Option.bind_some, List.getElem?_cons_zero, List.getElem?_cons_succ, List.length_cons, List.length_nil, List.set_cons_zero, List.set_cons_succ, gCat_nil, gCat_int, gCat_ref, if_pos, if_neg, Option.toList_some, Option.toList_none, List.cons_append, List.nil_append, B_nar, J1_nar, J0_nar, if_true, if_false, rd_wr_same, rd_wr_ne, true_and, and_true, B_0, B_1, not_true_eq_false, not_false_eq_true, m1, J_div, I_mod, J_ne0]
  · rw [if_neg h1]
    by_cases h2 : 0 < K 0 3 - h % 24
    · rw [if_pos h2]
      simp (disch := first | omega | exact Nat.le_of_ble_eq_true rfl) only [e21_0, e21_1, e21_4, e21_6, e21_9, e21_11, e21_14, e21_15, e21_16, e21_19, e21_20, e21_22, e21_23, e21_24, e21_27, J_add, J_sub, J_mul, J_neg, J_lt, J_le, J_eq, gArr_J, gAst_J, gSiz_J, gFld_o, gUpd_o0, gUpd_o1, gUpd_o2, gUpd_o3, gUpd_o4, gUpd_o5, gUpd_o6, gUpd_o7, gUpd_o8, gUpd_o9, gUpd_o10, gUpd_o11, gUpd_o12, gUpd_o13, gUpd_o14, gUpd_o15, gUpd_o16, gUpd_o17, gUpd_o18, gIsO_o, Option.bind_some, List.getElem?_cons_zero, List.getElem?_cons_succ, List.length_cons, List.length_nil, List.set_cons_zero, List.set_cons_succ, gCat_nil, gCat_int, gCat_ref, if_pos, if_neg, Option.toList_some, Option.toList_none, List.cons_append, List.nil_append, B_nar, J1_nar, J0_nar, if_true, if_false, rd_wr_same, rd_wr_ne, true_and, and_true, B_0, B_1, not_true_eq_false, not_false_eq_true, m1, J_div, I_mod, J_ne0]
    · rw [if_neg h2]
      simp (disch := first | omega | exact Nat.le_of_ble_eq_true rfl) only [e21_0, e21_1, e21_4, e21_6, e21_9, e21_11, e21_14, e21_15, e21_16, e21_19, e21_20, e21_22, e21_23, e21_24, e21_27, J_add, J_sub, J_mul, J_neg, J_lt, J_le, J_eq, gArr_J, gAst_J, gSiz_J, gFld_o, gUpd_o0, gUpd_o1, gUpd_o2, gUpd_o3, gUpd_o4, gUpd_o5, gUpd_o6, gUpd_o7, gUpd_o8, gUpd_o9, gUpd_o10, gUpd_o11, gUpd_o12, gUpd_o13, gUpd_o14, gUpd_o15, gUpd_o16, gUpd_o17, gUpd_o18, gIsO_o, Option.bind_some, List.getElem?_cons_zero, List.getElem?_cons_succ, List.length_cons, List.length_nil, List.set_cons_zero, List.set_cons_succ, gCat_nil, gCat_int, gCat_ref, if_pos, if_neg, Option.toList_some, Option.toList_none, List.cons_append, List.nil_append, B_nar, J1_nar, J0_nar, if_true, if_false, rd_wr_same, rd_wr_ne, true_and, and_true, B_0, B_1, not_true_eq_false, not_false_eq_true, m1, J_div, I_mod, J_ne0]

/-- both ends of a gap as a set -/
def ends (K : Lay) (g : Int) : Nat := 2 ^ (K 1 (5 * g + 1)).toNat ||| 2 ^ (K 1 (5 * g + 2)).toNat
theorem pow8 {n : Nat} (h : n < 8) : 2 ^ n < 256 := Nat.lt_of_lt_of_le (Nat.pow_lt_pow_right (by decide) h) (Nat.le_refl _)
theorem ends_lt {K : Lay} (hK : vK K) {g : Int} (hg : 0 ≤ g ∧ g < K 0 1) : ends K g < 256 := by
  obtain ⟨k0, k1, k2, k3, k4, kg, kd, kr⟩ := id hK
  obtain ⟨q0, q1, q2, -⟩ := kg g hg.1 hg.2
  unfold ends
  exact Nat.or_lt_two_pow (n := 8) (pow8 (by omega)) (pow8 (by omega))
def onw (K : Lay) (s P : Nat) : Nat → Nat
  | 0 => P
  | n + 1 => if s.testBit n = true ∧ P &&& ends K n ≠ 0 then onw K s P n ||| ends K n else onw K s P n
theorem onw_lt {K : Lay} (hK : vK K) {s P : Nat} (hP : P < 256) : ∀ n : Nat, (n : Int) ≤ K 0 1 → onw K s P n < 256 := by
  intro n
  induction n with
  | zero => intro _; exact hP
  | succ n ih =>
    intro h
    unfold onw
    split
    · exact Nat.or_lt_two_pow (n := 8) (ih (by omega)) (ends_lt hK (by omega))
    · exact ih (by omega)
theorem l24 {nat : gNat} {d : Nat} {w : gWd} {m : Nat} {K : Lay} (hm : isMe w m K) (hK : vK K) {s P : Nat} (hs : s < 256) (hP : P < 256) {N : Nat} (hN : (N : Int) = K 0 1) : ∀ (k n : Nat) (z : Option Value), n + k = N → gX (gC nat (d + 2)) nat 24 5 [some (.ref m), some (.int (J P)), some (.int (J s)), some (.int (J (onw K s P n))), some (.int (J n)), z] [] [] w = some (some (.int (J (onw K s P N))), w) := by
  obtain ⟨m0, m1, m2, m3, m4⟩ := id hm
  obtain ⟨k0, k1, k2, k3, k4, kg, kd, kr⟩ := id hK
  intro k
  induction k with
  | zero =>
    intro n z hn
    rw [Nat.add_zero] at hn
    subst hn
    simp (disch := first | omega | exact Nat.le_of_ble_eq_true rfl) only [e24_0, e24_1, e24_2, e24_3, e24_5, e24_7, e24_8, e24_11, e24_14, e24_15, e24_16, e24_18, e24_19, e24_22, e24_23, e24_24, e24_25, e24_27, e24_28, e24_31, e24_32, e24_33, e24_35, e24_36, e24_38, e24_41, e24_44, e24_45, e24_47, e24_48, e24_51, e24_52, e24_54, e24_55, e24_56, e24_59, e24_62, e24_63, J_add, J_sub, J_mul, J_neg, J_lt, J_le, J_eq, gArr_J, gAst_J, gSiz_J, gFld_o, gUpd_o0, gUpd_o1, gUpd_o2, gUpd_o3, gUpd_o4, gUpd_o5, gUpd_o6, gUpd_o7, gUpd_o8, gUpd_o9, gUpd_o10, gUpd_o11, gUpd_o12, gUpd_o13, gUpd_o14, gUpd_o15, gUpd_o16, gUpd_o17, gUpd_o18, gIsO_o, Option.bind_some, List.getElem?_cons_zero, List.getElem?_cons_succ, List.length_cons, List.length_nil, List.set_cons_zero, List.set_cons_succ, gCat_nil, gCat_int, gCat_ref, if_pos, if_neg, Option.toList_some, Option.toList_none, List.cons_append, List.nil_append, B_nar, J1_nar, J0_nar, if_true, if_false, rd_wr_same, rd_wr_ne, true_and, and_true, B_0, B_1, not_true_eq_false, not_false_eq_true, m1]
  | succ k ih =>
    intro n z hn
    obtain ⟨q0, q1, q2, -⟩ := kg n (by omega) (by omega)
    have c1 := s18 (nat := nat) (d := d + 1) (w := w) (m := m) (K := K) (g := n) (i := 1) hm (by omega) (by omega)
    have c2 := s18 (nat := nat) (d := d + 1) (w := w) (m := m) (K := K) (g := n) (i := 2) hm (by omega) (by omega)
    have c3 := s114 (nat := nat) (d := d) (w := w) (s := s) (g := n) (by omega) (by omega)
    rw [Int.toNat_natCast] at c3
    have e1 : J 1 <<< (J (K 1 (5 * (n : Int) + 1)) &&& 31) ||| J 1 <<< (J (K 1 (5 * (n : Int) + 2)) &&& 31) = J ((ends K n : Nat) : Int) := by rw [J_shl (by omega), J_shl (by omega), J_or]; rfl
    have hE := ends_lt hK (g := n) (by omega)
    have e2 : (J (P : Int) &&& J ((ends K n : Nat) : Int) = J 0) = (P &&& ends K n = 0) := by
      rw [J_and, show J 0 = J ((0 : Nat) : Int) from rfl, J_eqN (Nat.lt_of_le_of_lt Nat.and_le_left (by omega)) (by decide)]
    have e3 := J_or (onw K s P n) (ends K n)
    have this := fun z => ih (n + 1) z (by omega)
    rw [show ((n + 1 : Nat) : Int) = (n : Int) + 1 from rfl, onw] at this
    rw [e24_5]
    by_cases h1 : s.testBit n = true
    · rw [B_pos h1] at c3
      by_cases h2 : P &&& ends K n = 0
      · rw [if_neg (fun q => q.2 h2)] at this
        simp (disch := first | omega | exact Nat.le_of_ble_eq_true rfl) only [e24_0, e24_1, e24_2, e24_3, e24_7, e24_8, e24_11, e24_14, e24_15, e24_16, e24_18, e24_19, e24_22, e24_23, e24_24, e24_25, e24_27, e24_28, e24_31, e24_32, e24_33, e24_35, e24_36, e24_38, e24_41, e24_44, e24_45, e24_47, e24_48, e24_51, e24_52, e24_54, e24_55, e24_56, e24_59, e24_62, e24_63, J_add, J_sub, J_mul, J_neg, J_lt, J_le, J_eq, gArr_J, gAst_J, gSiz_J, gFld_o, gUpd_o0, gUpd_o1, gUpd_o2, gUpd_o3, gUpd_o4, gUpd_o5, gUpd_o6, gUpd_o7, gUpd_o8, gUpd_o9, gUpd_o10, gUpd_o11, gUpd_o12, gUpd_o13, gUpd_o14, gUpd_o15, gUpd_o16, gUpd_o17, gUpd_o18, gIsO_o, Option.bind_some, List.getElem?_cons_zero, List.getElem?_cons_succ, List.length_cons, List.length_nil, List.set_cons_zero, List.set_cons_succ, gCat_nil, gCat_int, gCat_ref, if_pos, if_neg, Option.toList_some, Option.toList_none, List.cons_append, List.nil_append, B_nar, J1_nar, J0_nar, if_true, if_false, rd_wr_same, rd_wr_ne, true_and, and_true, B_0, B_1, not_true_eq_false, not_false_eq_true, m1, c1, c2, c3, e1, e2, h2, this]
      · rw [if_pos ⟨h1, h2⟩] at this
        simp (disch := first | omega | exact Nat.le_of_ble_eq_true rfl) only [e24_0, e24_1, e24_2, e24_3, e24_7, e24_8, e24_11, e24_14, e24_15, e24_16, e24_18, e24_19, e24_22, e24_23, e24_24, e24_25, e24_27, e24_28, e24_31, e24_32, e24_33, e24_35, e24_36, e24_38, e24_41, e24_44, e24_45, e24_47, e24_48, e24_51, e24_52, e24_54, e24_55, e24_56, e24_59, e24_62, e24_63, J_add, J_sub, J_mul, J_neg, J_lt, J_le, J_eq, gArr_J, gAst_J, gSiz_J, gFld_o, gUpd_o0, gUpd_o1, gUpd_o2, gUpd_o3, gUpd_o4, gUpd_o5, gUpd_o6, gUpd_o7, gUpd_o8, gUpd_o9, gUpd_o10, gUpd_o11, gUpd_o12, gUpd_o13, gUpd_o14, gUpd_o15, gUpd_o16, gUpd_o17, gUpd_o18, gIsO_o, Option.bind_some, List.getElem?_cons_zero, List.getElem?_cons_succ, List.length_cons, List.length_nil, List.set_cons_zero, List.set_cons_succ, gCat_nil, gCat_int, gCat_ref, if_pos, if_neg, Option.toList_some, Option.toList_none, List.cons_append, List.nil_append, B_nar, J1_nar, J0_nar, if_true, if_false, rd_wr_same, rd_wr_ne, true_and, and_true, B_0, B_1, not_true_eq_false, not_false_eq_true, m1, c1, c2, c3, e1, e2, e3, h2, this]
    · rw [B_neg h1] at c3
      rw [if_neg (fun q => h1 q.1)] at this
      simp (disch := first | omega | exact Nat.le_of_ble_eq_true rfl) only [e24_0, e24_1, e24_2, e24_3, e24_7, e24_8, e24_11, e24_14, e24_15, e24_16, e24_18, e24_19, e24_22, e24_23, e24_24, e24_25, e24_27, e24_28, e24_31, e24_32, e24_33, e24_35, e24_36, e24_38, e24_41, e24_44, e24_45, e24_47, e24_48, e24_51, e24_52, e24_54, e24_55, e24_56, e24_59, e24_62, e24_63, J_add, J_sub, J_mul, J_neg, J_lt, J_le, J_eq, gArr_J, gAst_J, gSiz_J, gFld_o, gUpd_o0, gUpd_o1, gUpd_o2, gUpd_o3, gUpd_o4, gUpd_o5, gUpd_o6, gUpd_o7, gUpd_o8, gUpd_o9, gUpd_o10, gUpd_o11, gUpd_o12, gUpd_o13, gUpd_o14, gUpd_o15, gUpd_o16, gUpd_o17, gUpd_o18, gIsO_o, Option.bind_some, List.getElem?_cons_zero, List.getElem?_cons_succ, List.length_cons, List.length_nil, List.set_cons_zero, List.set_cons_succ, gCat_nil, gCat_int, gCat_ref, if_pos, if_neg, Option.toList_some, Option.toList_none, List.cons_append, List.nil_append, B_nar, J1_nar, J0_nar, if_true, if_false, rd_wr_same, rd_wr_ne, true_and, and_true, B_0, B_1, not_true_eq_false, not_false_eq_true, m1, c1, c2, c3, e1, this]

theorem s24 {nat : gNat} {d : Nat} {w : gWd} {m : Nat} {K : Lay} (hm : isMe w m K) (hK : vK K) {s P : Nat} (hs : s < 256) (hP : P < 256) : gC nat (d + 3) 24 [.ref m, .int (J P), .int (J s)] w = some (some (.int (J (onw K s P (K 0 1).toNat))), w) := by
  rw [en24]
  have := l24 (nat := nat) (d := d) (w := w) hm hK hs hP (N := (K 0 1).toNat) (by have := hK.2.1; omega) (K 0 1).toNat 0 none (by omega)
  rw [onw] at this
  simp (disch := first | omega | exact Nat.le_of_ble_eq_true rfl) only [e24_0, e24_1, e24_2, e24_3, e24_7, e24_8, e24_11, e24_14, e24_15, e24_16, e24_18, e24_19, e24_22, e24_23, e24_24, e24_25, e24_27, e24_28, e24_31, e24_32, e24_33, e24_35, e24_36, e24_38, e24_41, e24_44, e24_45, e24_47, e24_48, e24_51, e24_52, e24_54, e24_55, e24_56, e24_59, e24_62, e24_63, J_add, J_sub, J_mul, J_neg, J_lt, J_le, J_eq, gArr_J, gAst_J, gSiz_J, gFld_o, gUpd_o0, gUpd_o1, gUpd_o2, gUpd_o3, gUpd_o4, gUpd_o5, gUpd_o6, gUpd_o7, gUpd_o8, gUpd_o9, gUpd_o10, gUpd_o11, gUpd_o12, gUpd_o13, gUpd_o14, gUpd_o15, gUpd_o16, gUpd_o17, gUpd_o18, gIsO_o, Option.bind_some, List.getElem?_cons_zero, List.getElem?_cons_succ, List.length_cons, List.length_nil, List.set_cons_zero, List.set_cons_succ, gCat_nil, gCat_int, gCat_ref, if_pos, if_neg, Option.toList_some, Option.toList_none, List.cons_append, List.nil_append, B_nar, J1_nar, J0_nar, if_true, if_false, rd_wr_same, rd_wr_ne, true_and, and_true, B_0, B_1, not_true_eq_false, not_false_eq_true]
  exact this

/-- the gaps that are closed, as a set -/
def cbs (K S : Lay) : Nat → Nat
  | 0 => 0
  | n + 1 => if K 1 (5 * (n : Int) + 4) ≤ S 1 n then cbs K S n ||| 2 ^ n else cbs K S n
theorem cbs_lt (K S : Lay) : ∀ n : Nat, n ≤ 8 → cbs K S n < 256 := by
  intro n
  induction n with
  | zero => intro _; exact (by decide : (0 : Nat) < 256)
  | succ n ih =>
    intro h
    unfold cbs
    split
    · exact Nat.or_lt_two_pow (n := 8) (ih (by omega)) (pow8 (by omega))
    · exact ih (by omega)
theorem l63 {nat : gNat} {d : Nat} {w : gWd} {a m : Nat} {K : Lay} (hm : isMe w m K) (hK : vK K) (ho : m + 3 < a ∨ a + 3 < m) (ha : a + 3 < gSTR) {S : Lay} (hS : ∀ g, 0 ≤ g → g < K 0 1 → 0 ≤ S 1 g ∧ S 1 g ≤ 20) {N : Nat} (hN : (N : Int) = K 0 1) : ∀ (k n : Nat), n + k = N → gX (gC nat (d + 2)) nat 63 4 [some (.ref a), some (.ref m), some (.int (J (cbs K S n))), some (.int (J n))] [] [] (putS w a S) = some (some (.int (J (cbs K S N))), putS w a S) := by
  have hm' : ∀ S, isMe (putS w a S) m K := fun S => isMe_putS ho hm
  obtain ⟨m0, m1, m2, m3, m4⟩ := id hm
  obtain ⟨k0, k1, k2, k3, k4, kg, kd, kr⟩ := id hK
  have a1 : a + 1 < gSTR := by omega
  have a2 : a + 2 < gSTR := by omega
  have r0 : ∀ S, rd (putS w a S) m = oC 2 [.int (J (K 0 0)), .int (J (K 0 1)), .int (J (K 0 2)), .int (J (K 0 3)), .int (J (K 0 4)), .ref (m + 1), .ref (m + 2), .ref (m + 3)] := fun S => (hm' S).2.1
  intro k
  induction k with
  | zero =>
    intro n hn
    rw [Nat.add_zero] at hn
    subst hn
    simp (disch := first | exact hm' _ | assumption | omega | exact Nat.le_of_ble_eq_true rfl) only [e63_0, e63_1, e63_2, e63_3, e63_4, e63_5, e63_6, e63_9, e63_12, e63_13, e63_14, e63_15, e63_18, e63_21, e63_22, e63_23, e63_24, e63_25, e63_26, e63_27, e63_30, e63_33, e63_34, J_add, J_sub, J_mul, J_neg, J_lt, J_le, J_eq, gArr_J, gAst_J, gSiz_J, gFld_o, gUpd_o0, gUpd_o1, gUpd_o2, gUpd_o3, gUpd_o4, gUpd_o5, gUpd_o6, gUpd_o7, gUpd_o8, gUpd_o9, gUpd_o10, gUpd_o11, gUpd_o12, gUpd_o13, gUpd_o14, gUpd_o15, gUpd_o16, gUpd_o17, gUpd_o18, gIsO_o, Option.bind_some, List.getElem?_cons_zero, List.getElem?_cons_succ, List.length_cons, List.length_nil, List.set_cons_zero, List.set_cons_succ, gCat_nil, gCat_int, gCat_ref, if_pos, if_neg, Option.toList_some, Option.toList_none, List.cons_append, List.nil_append, B_nar, J1_nar, J0_nar, if_true, if_false, rd_wr_same, rd_wr_ne, true_and, and_true, B_0, B_1, not_true_eq_false, not_false_eq_true, rdP0, rdP1, rdP2, rdP3, wP0, wP1, wP2, wP3, Nat.reduceAdd, r0]
  | succ k ih =>
    intro n hn
    have c0 := s62 (nat := nat) (d := d) (w := w) (S := S) hm hK ho ha (g := n) (by omega) (hS n (by omega) (by omega))
    have e1 : J 1 <<< (J (n : Int) &&& 31) = J ((2 ^ n : Nat) : Int) := by rw [J_shl (by omega), Int.toNat_natCast]
    have e3 := J_or (cbs K S n) (2 ^ n)
    have this := ih (n + 1) (by omega)
    rw [show ((n + 1 : Nat) : Int) = (n : Int) + 1 from rfl, cbs] at this
    rw [e63_4]
    by_cases h : K 1 (5 * (n : Int) + 4) ≤ S 1 n
    · rw [B_pos h] at c0
      rw [if_pos h] at this
      simp (disch := first | exact hm' _ | assumption | omega | exact Nat.le_of_ble_eq_true rfl) only [e63_0, e63_1, e63_2, e63_3, e63_5, e63_6, e63_9, e63_12, e63_13, e63_14, e63_15, e63_18, e63_21, e63_22, e63_23, e63_24, e63_25, e63_26, e63_27, e63_30, e63_33, e63_34, J_add, J_sub, J_mul, J_neg, J_lt, J_le, J_eq, gArr_J, gAst_J, gSiz_J, gFld_o, gUpd_o0, gUpd_o1, gUpd_o2, gUpd_o3, gUpd_o4, gUpd_o5, gUpd_o6, gUpd_o7, gUpd_o8, gUpd_o9, gUpd_o10, gUpd_o11, gUpd_o12, gUpd_o13, gUpd_o14, gUpd_o15, gUpd_o16, gUpd_o17, gUpd_o18, gIsO_o, Option.bind_some, List.getElem?_cons_zero, List.getElem?_cons_succ, List.length_cons, List.length_nil, List.set_cons_zero, List.set_cons_succ, gCat_nil, gCat_int, gCat_ref, if_pos, if_neg, Option.toList_some, Option.toList_none, List.cons_append, List.nil_append, B_nar, J1_nar, J0_nar, if_true, if_false, rd_wr_same, rd_wr_ne, true_and, and_true, B_0, B_1, not_true_eq_false, not_false_eq_true, rdP0, rdP1, rdP2, rdP3, wP0, wP1, wP2, wP3, Nat.reduceAdd, r0, c0, e1, e3, this]
    · rw [B_neg h] at c0
      rw [if_neg h] at this
      simp (disch := first | exact hm' _ | assumption | omega | exact Nat.le_of_ble_eq_true rfl) only [e63_0, e63_1, e63_2, e63_3, e63_5, e63_6, e63_9, e63_12, e63_13, e63_14, e63_15, e63_18, e63_21, e63_22, e63_23, e63_24, e63_25, e63_26, e63_27, e63_30, e63_33, e63_34, J_add, J_sub, J_mul, J_neg, J_lt, J_le, J_eq, gArr_J, gAst_J, gSiz_J, gFld_o, gUpd_o0, gUpd_o1, gUpd_o2, gUpd_o3, gUpd_o4, gUpd_o5, gUpd_o6, gUpd_o7, gUpd_o8, gUpd_o9, gUpd_o10, gUpd_o11, gUpd_o12, gUpd_o13, gUpd_o14, gUpd_o15, gUpd_o16, gUpd_o17, gUpd_o18, gIsO_o, Option.bind_some, List.getElem?_cons_zero, List.getElem?_cons_succ, List.length_cons, List.length_nil, List.set_cons_zero, List.set_cons_succ, gCat_nil, gCat_int, gCat_ref, if_pos, if_neg, Option.toList_some, Option.toList_none, List.cons_append, List.nil_append, B_nar, J1_nar, J0_nar, if_true, if_false, rd_wr_same, rd_wr_ne, true_and, and_true, B_0, B_1, not_true_eq_false, not_false_eq_true, rdP0, rdP1, rdP2, rdP3, wP0, wP1, wP2, wP3, Nat.reduceAdd, r0, c0, this]

theorem s63 {nat : gNat} {d : Nat} {w : gWd} {a m : Nat} {S K : Lay} (hm : isMe w m K) (hK : vK K) (ho : m + 3 < a ∨ a + 3 < m) (ha : a + 3 < gSTR) (hS : ∀ g, 0 ≤ g → g < K 0 1 → 0 ≤ S 1 g ∧ S 1 g ≤ 20) : gC nat (d + 3) 63 [.ref a, .ref m] (putS w a S) = some (some (.int (J (cbs K S (K 0 1).toNat))), putS w a S) := by
  rw [en63]
  have := l63 (nat := nat) (d := d) hm hK ho ha hS (N := (K 0 1).toNat) (by have := hK.2.1; omega) (K 0 1).toNat 0 (by omega)
  rw [cbs] at this
  simp (disch := first | omega | exact Nat.le_of_ble_eq_true rfl) only [e63_0, e63_1, e63_2, e63_3, e63_5, e63_6, e63_9, e63_12, e63_13, e63_14, e63_15, e63_18, e63_21, e63_22, e63_23, e63_24, e63_25, e63_26, e63_27, e63_30, e63_33, e63_34, J_add, J_sub, J_mul, J_neg, J_lt, J_le, J_eq, gArr_J, gAst_J, gSiz_J, gFld_o, gUpd_o0, gUpd_o1, gUpd_o2, gUpd_o3, gUpd_o4, gUpd_o5, gUpd_o6, gUpd_o7, gUpd_o8, gUpd_o9, gUpd_o10, gUpd_o11, gUpd_o12, gUpd_o13, gUpd_o14, gUpd_o15, gUpd_o16, gUpd_o17, gUpd_o18, gIsO_o, Option.bind_some, List.getElem?_cons_zero, List.getElem?_cons_succ, List.length_cons, List.length_nil, List.set_cons_zero, List.set_cons_succ, gCat_nil, gCat_int, gCat_ref, if_pos, if_neg, Option.toList_some, Option.toList_none, List.cons_append, List.nil_append, B_nar, J1_nar, J0_nar, if_true, if_false, rd_wr_same, rd_wr_ne, true_and, and_true, B_0, B_1, not_true_eq_false, not_false_eq_true]
  exact this

/-- all stitches -/
def ast (S : Lay) : Nat → Int
  | 0 => 0
  | n + 1 => ast S n + S 1 n
theorem ast_in {S : Lay} {N : Int} (hS : ∀ g, 0 ≤ g → g < N → 0 ≤ S 1 g ∧ S 1 g ≤ 20) : ∀ n : Nat, (n : Int) ≤ N → 0 ≤ ast S n ∧ ast S n ≤ 20 * n := by
  intro n
  induction n with
  | zero => intro _; exact ⟨Int.le_refl 0, Int.le_refl 0⟩
  | succ n ih =>
    intro h
    have h1 := ih (by omega)
    have h2 := hS n (by omega) (by omega)
    unfold ast
    omega
theorem l64 {nat : gNat} {d : Nat} {w : gWd} {a m : Nat} {K : Lay} (hm : isMe w m K) (hK : vK K) (ho : m + 3 < a ∨ a + 3 < m) (ha : a + 3 < gSTR) {S : Lay} {N : Nat} (hN : (N : Int) = K 0 1) : ∀ (k n : Nat), n + k = N → gX (gC nat (d + 1)) nat 64 4 [some (.ref a), some (.ref m), some (.int (J (ast S n))), some (.int (J n))] [] [] (putS w a S) = some (some (.int (J (ast S N))), putS w a S) := by
  have hm' : ∀ S, isMe (putS w a S) m K := fun S => isMe_putS ho hm
  obtain ⟨m0, m1, m2, m3, m4⟩ := id hm
  obtain ⟨k0, k1, k2, k3, k4, kg, kd, kr⟩ := id hK
  have a1 : a + 1 < gSTR := by omega
  have a2 : a + 2 < gSTR := by omega
  have r0 : ∀ S, rd (putS w a S) m = oC 2 [.int (J (K 0 0)), .int (J (K 0 1)), .int (J (K 0 2)), .int (J (K 0 3)), .int (J (K 0 4)), .ref (m + 1), .ref (m + 2), .ref (m + 3)] := fun S => (hm' S).2.1
  intro k
  induction k with
  | zero =>
    intro n hn
    rw [Nat.add_zero] at hn
    subst hn
    simp (disch := first | exact hm' _ | assumption | omega | exact Nat.le_of_ble_eq_true rfl) only [e64_0, e64_1, e64_2, e64_3, e64_4, e64_5, e64_6, e64_9, e64_12, e64_13, e64_14, e64_17, e64_18, e64_21, e64_22, e64_23, e64_26, e64_29, e64_30, J_add, J_sub, J_mul, J_neg, J_lt, J_le, J_eq, gArr_J, gAst_J, gSiz_J, gFld_o, gUpd_o0, gUpd_o1, gUpd_o2, gUpd_o3, gUpd_o4, gUpd_o5, gUpd_o6, gUpd_o7, gUpd_o8, gUpd_o9, gUpd_o10, gUpd_o11, gUpd_o12, gUpd_o13, gUpd_o14, gUpd_o15, gUpd_o16, gUpd_o17, gUpd_o18, gIsO_o, Option.bind_some, List.getElem?_cons_zero, List.getElem?_cons_succ, List.length_cons, List.length_nil, List.set_cons_zero, List.set_cons_succ, gCat_nil, gCat_int, gCat_ref, if_pos, if_neg, Option.toList_some, Option.toList_none, List.cons_append, List.nil_append, B_nar, J1_nar, J0_nar, if_true, if_false, rd_wr_same, rd_wr_ne, true_and, and_true, B_0, B_1, not_true_eq_false, not_false_eq_true, rdP0, rdP1, rdP2, rdP3, wP0, wP1, wP2, wP3, Nat.reduceAdd, r0]
  | succ k ih =>
    intro n hn
    have c0 := s117 (nat := nat) (d := d) (w := putS w a S) (a := a + 1) (n := 8) (f := S 1) (i := n) rdP1 a1 (by omega) (by omega)
    have this := ih (n + 1) (by omega)
    rw [show ((n + 1 : Nat) : Int) = (n : Int) + 1 from rfl, ast] at this
    rw [e64_4]
    simp (disch := first | exact hm' _ | assumption | omega | exact Nat.le_of_ble_eq_true rfl) only [e64_0, e64_1, e64_2, e64_3, e64_5, e64_6, e64_9, e64_12, e64_13, e64_14, e64_17, e64_18, e64_21, e64_22, e64_23, e64_26, e64_29, e64_30, J_add, J_sub, J_mul, J_neg, J_lt, J_le, J_eq, gArr_J, gAst_J, gSiz_J, gFld_o, gUpd_o0, gUpd_o1, gUpd_o2, gUpd_o3, gUpd_o4, gUpd_o5, gUpd_o6, gUpd_o7, gUpd_o8, gUpd_o9, gUpd_o10, gUpd_o11, gUpd_o12, gUpd_o13, gUpd_o14, gUpd_o15, gUpd_o16, gUpd_o17, gUpd_o18, gIsO_o, Option.bind_some, List.getElem?_cons_zero, List.getElem?_cons_succ, List.length_cons, List.length_nil, List.set_cons_zero, List.set_cons_succ, gCat_nil, gCat_int, gCat_ref, if_pos, if_neg, Option.toList_some, Option.toList_none, List.cons_append, List.nil_append, B_nar, J1_nar, J0_nar, if_true, if_false, rd_wr_same, rd_wr_ne, true_and, and_true, B_0, B_1, not_true_eq_false, not_false_eq_true, rdP0, rdP1, rdP2, rdP3, wP0, wP1, wP2, wP3, Nat.reduceAdd, r0, c0, this]

theorem s64 {nat : gNat} {d : Nat} {w : gWd} {a m : Nat} {S K : Lay} (hm : isMe w m K) (hK : vK K) (ho : m + 3 < a ∨ a + 3 < m) (ha : a + 3 < gSTR)  : gC nat (d + 2) 64 [.ref a, .ref m] (putS w a S) = some (some (.int (J (ast S (K 0 1).toNat))), putS w a S) := by
  rw [en64]
  have := l64 (nat := nat) (d := d) hm hK ho ha (S := S) (N := (K 0 1).toNat) (by have := hK.2.1; omega) (K 0 1).toNat 0 (by omega)
  rw [ast] at this
  simp (disch := first | omega | exact Nat.le_of_ble_eq_true rfl) only [e64_0, e64_1, e64_2, e64_3, e64_5, e64_6, e64_9, e64_12, e64_13, e64_14, e64_17, e64_18, e64_21, e64_22, e64_23, e64_26, e64_29, e64_30, J_add, J_sub, J_mul, J_neg, J_lt, J_le, J_eq, gArr_J, gAst_J, gSiz_J, gFld_o, gUpd_o0, gUpd_o1, gUpd_o2, gUpd_o3, gUpd_o4, gUpd_o5, gUpd_o6, gUpd_o7, gUpd_o8, gUpd_o9, gUpd_o10, gUpd_o11, gUpd_o12, gUpd_o13, gUpd_o14, gUpd_o15, gUpd_o16, gUpd_o17, gUpd_o18, gIsO_o, Option.bind_some, List.getElem?_cons_zero, List.getElem?_cons_succ, List.length_cons, List.length_nil, List.set_cons_zero, List.set_cons_succ, gCat_nil, gCat_int, gCat_ref, if_pos, if_neg, Option.toList_some, Option.toList_none, List.cons_append, List.nil_append, B_nar, J1_nar, J0_nar, if_true, if_false, rd_wr_same, rd_wr_ne, true_and, and_true, B_0, B_1, not_true_eq_false, not_false_eq_true]
  exact this

/-- how many are sent -/
def snt (S : Lay) : Nat → Int
  | 0 => 0
  | n + 1 => if S 2 n = -4 then snt S n else snt S n + 1
theorem l65 {nat : gNat} {d : Nat} {w : gWd} {a m : Nat} {K : Lay} (hm : isMe w m K) (hK : vK K) (ho : m + 3 < a ∨ a + 3 < m) (ha : a + 3 < gSTR) {S : Lay} (hS : vS K S) {N : Nat} (hN : (N : Int) = K 0 2) : ∀ (k n : Nat), n + k = N → gX (gC nat (d + 1)) nat 65 4 [some (.ref a), some (.ref m), some (.int (J (snt S n))), some (.int (J n))] [] [] (putS w a S) = some (some (.int (J (snt S N))), putS w a S) := by
  have hm' : ∀ S, isMe (putS w a S) m K := fun S => isMe_putS ho hm
  obtain ⟨m0, m1, m2, m3, m4⟩ := id hm
  obtain ⟨k0, k1, k2, k3, k4, kg, kd, kr⟩ := id hK
  have a1 : a + 1 < gSTR := by omega
  have a2 : a + 2 < gSTR := by omega
  have r0 : ∀ S, rd (putS w a S) m = oC 2 [.int (J (K 0 0)), .int (J (K 0 1)), .int (J (K 0 2)), .int (J (K 0 3)), .int (J (K 0 4)), .ref (m + 1), .ref (m + 2), .ref (m + 3)] := fun S => (hm' S).2.1
  intro k
  induction k with
  | zero =>
    intro n hn
    rw [Nat.add_zero] at hn
    subst hn
    simp (disch := first | exact hm' _ | assumption | omega | exact Nat.le_of_ble_eq_true rfl) only [e65_0, e65_1, e65_2, e65_3, e65_4, e65_5, e65_6, e65_9, e65_12, e65_13, e65_14, e65_17, e65_18, e65_21, e65_23, e65_26, e65_27, e65_30, e65_31, e65_34, e65_35, e65_36, e65_39, e65_42, e65_43, J_add, J_sub, J_mul, J_neg, J_lt, J_le, J_eq, gArr_J, gAst_J, gSiz_J, gFld_o, gUpd_o0, gUpd_o1, gUpd_o2, gUpd_o3, gUpd_o4, gUpd_o5, gUpd_o6, gUpd_o7, gUpd_o8, gUpd_o9, gUpd_o10, gUpd_o11, gUpd_o12, gUpd_o13, gUpd_o14, gUpd_o15, gUpd_o16, gUpd_o17, gUpd_o18, gIsO_o, Option.bind_some, List.getElem?_cons_zero, List.getElem?_cons_succ, List.length_cons, List.length_nil, List.set_cons_zero, List.set_cons_succ, gCat_nil, gCat_int, gCat_ref, if_pos, if_neg, Option.toList_some, Option.toList_none, List.cons_append, List.nil_append, B_nar, J1_nar, J0_nar, if_true, if_false, rd_wr_same, rd_wr_ne, true_and, and_true, B_0, B_1, not_true_eq_false, not_false_eq_true, rdP0, rdP1, rdP2, rdP3, wP0, wP1, wP2, wP3, Nat.reduceAdd, r0]
  | succ k ih =>
    intro n hn
    have c0 := s117 (nat := nat) (d := d) (w := putS w a S) (a := a + 2) (n := 4) (f := S 2) (i := n) rdP2 a2 (by omega) (by omega)
    have c1 := s116 (nat := nat) (d := d) (w := putS w a S) (p := True)
    have c2 := s116 (nat := nat) (d := d) (w := putS w a S) (p := False)
    rw [B_pos trivial] at c1
    rw [B_neg (fun q => q)] at c2
    have hgo := hS.2.2.1 n (by omega) (by omega)
    have this := ih (n + 1) (by omega)
    rw [show ((n + 1 : Nat) : Int) = (n : Int) + 1 from rfl, snt] at this
    rw [e65_4]
    by_cases h : S 2 n = -4
    · rw [if_pos h] at this
      rw [h] at c0
      simp (disch := first | exact hm' _ | assumption | omega | exact Nat.le_of_ble_eq_true rfl) only [e65_0, e65_1, e65_2, e65_3, e65_5, e65_6, e65_9, e65_12, e65_13, e65_14, e65_17, e65_18, e65_21, e65_23, e65_26, e65_27, e65_30, e65_31, e65_34, e65_35, e65_36, e65_39, e65_42, e65_43, J_add, J_sub, J_mul, J_neg, J_lt, J_le, J_eq, gArr_J, gAst_J, gSiz_J, gFld_o, gUpd_o0, gUpd_o1, gUpd_o2, gUpd_o3, gUpd_o4, gUpd_o5, gUpd_o6, gUpd_o7, gUpd_o8, gUpd_o9, gUpd_o10, gUpd_o11, gUpd_o12, gUpd_o13, gUpd_o14, gUpd_o15, gUpd_o16, gUpd_o17, gUpd_o18, gIsO_o, Option.bind_some, List.getElem?_cons_zero, List.getElem?_cons_succ, List.length_cons, List.length_nil, List.set_cons_zero, List.set_cons_succ, gCat_nil, gCat_int, gCat_ref, if_pos, if_neg, Option.toList_some, Option.toList_none, List.cons_append, List.nil_append, B_nar, J1_nar, J0_nar, if_true, if_false, rd_wr_same, rd_wr_ne, true_and, and_true, B_0, B_1, not_true_eq_false, not_false_eq_true, rdP0, rdP1, rdP2, rdP3, wP0, wP1, wP2, wP3, Nat.reduceAdd, r0, c0, c1, c2, Int.add_zero, this]
    · rw [if_neg h] at this
      have hne : ¬ (J (S 2 n) = J (-4)) := by rw [J_eq (by omega) (by omega)]; exact h
      simp (disch := first | exact hm' _ | assumption | omega | exact Nat.le_of_ble_eq_true rfl) only [e65_0, e65_1, e65_2, e65_3, e65_5, e65_6, e65_9, e65_12, e65_13, e65_14, e65_17, e65_18, e65_21, e65_23, e65_26, e65_27, e65_30, e65_31, e65_34, e65_35, e65_36, e65_39, e65_42, e65_43, J_add, J_sub, J_mul, J_neg, J_lt, J_le, J_eq, gArr_J, gAst_J, gSiz_J, gFld_o, gUpd_o0, gUpd_o1, gUpd_o2, gUpd_o3, gUpd_o4, gUpd_o5, gUpd_o6, gUpd_o7, gUpd_o8, gUpd_o9, gUpd_o10, gUpd_o11, gUpd_o12, gUpd_o13, gUpd_o14, gUpd_o15, gUpd_o16, gUpd_o17, gUpd_o18, gIsO_o, Option.bind_some, List.getElem?_cons_zero, List.getElem?_cons_succ, List.length_cons, List.length_nil, List.set_cons_zero, List.set_cons_succ, gCat_nil, gCat_int, gCat_ref, if_pos, if_neg, Option.toList_some, Option.toList_none, List.cons_append, List.nil_append, B_nar, J1_nar, J0_nar, if_true, if_false, rd_wr_same, rd_wr_ne, true_and, and_true, B_0, B_1, not_true_eq_false, not_false_eq_true, rdP0, rdP1, rdP2, rdP3, wP0, wP1, wP2, wP3, Nat.reduceAdd, r0, c0, c1, c2, hne, this]

theorem s65 {nat : gNat} {d : Nat} {w : gWd} {a m : Nat} {S K : Lay} (hm : isMe w m K) (hK : vK K) (ho : m + 3 < a ∨ a + 3 < m) (ha : a + 3 < gSTR) (hS : vS K S) : gC nat (d + 2) 65 [.ref a, .ref m] (putS w a S) = some (some (.int (J (snt S (K 0 2).toNat))), putS w a S) := by
  rw [en65]
  have := l65 (nat := nat) (d := d) hm hK ho ha hS (N := (K 0 2).toNat) (by have := hK.2.2.1; omega) (K 0 2).toNat 0 (by omega)
  rw [snt] at this
  simp (disch := first | omega | exact Nat.le_of_ble_eq_true rfl) only [e65_0, e65_1, e65_2, e65_3, e65_5, e65_6, e65_9, e65_12, e65_13, e65_14, e65_17, e65_18, e65_21, e65_23, e65_26, e65_27, e65_30, e65_31, e65_34, e65_35, e65_36, e65_39, e65_42, e65_43, J_add, J_sub, J_mul, J_neg, J_lt, J_le, J_eq, gArr_J, gAst_J, gSiz_J, gFld_o, gUpd_o0, gUpd_o1, gUpd_o2, gUpd_o3, gUpd_o4, gUpd_o5, gUpd_o6, gUpd_o7, gUpd_o8, gUpd_o9, gUpd_o10, gUpd_o11, gUpd_o12, gUpd_o13, gUpd_o14, gUpd_o15, gUpd_o16, gUpd_o17, gUpd_o18, gIsO_o, Option.bind_some, List.getElem?_cons_zero, List.getElem?_cons_succ, List.length_cons, List.length_nil, List.set_cons_zero, List.set_cons_succ, gCat_nil, gCat_int, gCat_ref, if_pos, if_neg, Option.toList_some, Option.toList_none, List.cons_append, List.nil_append, B_nar, J1_nar, J0_nar, if_true, if_false, rd_wr_same, rd_wr_ne, true_and, and_true, B_0, B_1, not_true_eq_false, not_false_eq_true]
  exact this
