theorem wHc {w : gWd} {h b : Nat} {f : Int → Int} {c : gCell} (hb : b ≠ h + 1) : wr (putH w h f) b c = putH (wr w b c) h f := by
  unfold putH
  rw [wr_comm (Ne.symm hb)]
theorem isHp_putE {w : gWd} {x h : Nat} {hd st lo bp bq : Int} {A1 A2 A3 A4 : Int → Int} (hh : isHp w h) (hxh : h + 1 < x ∨ x + 4 < h) : isHp (putE w x hd st lo bp bq A1 A2 A3 A4) h := ⟨hh.1, by rw [rdEn (by omega)]; exact hh.2⟩
def fitP (f A1 A2 A3 : Int → Int) : Nat → Bool
  | 0 => true
  | n + 1 => fitP f A1 A2 A3 n && decide ((if f (A1 n) = f (A2 n) then 1 else 0) = A3 n)
theorem fitP_false {f A1 A2 A3 : Int → Int} {n : Nat} (h : fitP f A1 A2 A3 n = false) : ∀ k, fitP f A1 A2 A3 (n + k) = false := by
  intro k
  induction k with
  | zero => exact h
  | succ k ih =>
    show (fitP f A1 A2 A3 (n + k) && _) = false
    rw [ih, Bool.false_and]
theorem l46 {nat : gNat} {d : Nat} {w : gWd} {x h : Nat} {hd st lo bp bq : Int} {A1 A2 A3 A4 f : Int → Int} (hx : x + 4 < gSTR) (hh : isHp w h) (hxh : h + 1 < x ∨ x + 4 < h) (hf : ∀ x, 0 ≤ x → x < 8 → 0 ≤ f x ∧ f x < 8) {N : Nat} (hN : hd = N) (hN8 : N ≤ 8) (hA : ∀ i : Int, 0 ≤ i → i < N → (0 ≤ A1 i ∧ A1 i < 8) ∧ (0 ≤ A2 i ∧ A2 i < 8) ∧ (0 ≤ A3 i ∧ A3 i ≤ 1)) : ∀ (k n : Nat), n + k = N → fitP f A1 A2 A3 n = true → gX (gC nat (d + 2)) nat 46 2 [some (.ref x), some (.ref h), some (.int (J n))] [] [] (putH (putE w x hd st lo bp bq A1 A2 A3 A4) h f) = some (some (.int (B (fitP f A1 A2 A3 N = true))), (putH (putE w x hd st lo bp bq A1 A2 A3 A4) h f)) := by
  subst hN
  have hh1 := hh.1
  have hE : isHp (putE w x N st lo bp bq A1 A2 A3 A4) h := isHp_putE hh hxh
  have hE2 := hE.2
  have x1 : x + 1 < gSTR := by omega
  have x2 : x + 2 < gSTR := by omega
  have x3 : x + 3 < gSTR := by omega
  intro k
  induction k with
  | zero =>
    intro n hn hp
    rw [Nat.add_zero] at hn
    subst hn
    rw [B_pos hp, e46_2]
    simp (disch := first | omega | exact Nat.le_of_ble_eq_true rfl) only [e46_0, e46_1, e46_3, e46_4, e46_7, e46_10, e46_11, e46_12, e46_15, e46_16, e46_19, e46_20, e46_23, e46_24, e46_27, e46_30, e46_33, e46_34, e46_37, e46_38, e46_41, e46_44, e46_45, e46_46, e46_49, e46_52, e46_53, J_add, J_sub, J_mul, J_neg, J_lt, J_le, J_eq, gArr_J, gAst_J, gSiz_J, gFld_o, gUpd_o0, gUpd_o1, gUpd_o2, gUpd_o3, gUpd_o4, gUpd_o5, gUpd_o6, gUpd_o7, gUpd_o8, gUpd_o9, gUpd_o10, gUpd_o11, gUpd_o12, gUpd_o13, gUpd_o14, gUpd_o15, gUpd_o16, gUpd_o17, gUpd_o18, gIsO_o, Option.bind_some, List.getElem?_cons_zero, List.getElem?_cons_succ, List.length_cons, List.length_nil, List.set_cons_zero, List.set_cons_succ, gCat_nil, gCat_int, gCat_ref, if_pos, if_neg, Option.toList_some, Option.toList_none, List.cons_append, List.nil_append, B_nar, J1_nar, J0_nar, if_true, if_false, rd_wr_same, rd_wr_ne, true_and, and_true, B_0, B_1, not_true_eq_false, not_false_eq_true, rdE0, rdE1, rdE2, rdE3, rdE4, wE0, wE1, wE2, wE3, wE4, rdHn, wHc]
  | succ k ih =>
    intro n hn hp
    obtain ⟨b1, b2, b3⟩ := hA n (by omega) (by omega)
    have c1 := s117 (nat := nat) (d := d + 1) (w := (putH (putE w x N st lo bp bq A1 A2 A3 A4) h f)) (a := x + 1) (n := 8) (f := A1) (i := n) (by rw [rdHn (by omega)]; exact rdE1) x1 (by omega) (by omega)
    have c2 := s117 (nat := nat) (d := d + 1) (w := (putH (putE w x N st lo bp bq A1 A2 A3 A4) h f)) (a := x + 2) (n := 8) (f := A2) (i := n) (by rw [rdHn (by omega)]; exact rdE2) x2 (by omega) (by omega)
    have c3 := s117 (nat := nat) (d := d + 1) (w := (putH (putE w x N st lo bp bq A1 A2 A3 A4) h f)) (a := x + 3) (n := 8) (f := A3) (i := n) (by rw [rdHn (by omega)]; exact rdE3) x3 (by omega) (by omega)
    have c4 := s9 (nat := nat) (d := d) (f := f) hE b1 b2 hf
    have c5 := s116 (nat := nat) (d := d + 1) (w := (putH (putE w x N st lo bp bq A1 A2 A3 A4) h f)) (p := f (A1 n) = f (A2 n))
    have c6 : True := trivial
    have e1 : fitP f A1 A2 A3 (n + 1) = decide ((if f (A1 n) = f (A2 n) then 1 else 0) = A3 n) := by
      show (fitP f A1 A2 A3 n && _) = _
      rw [hp, Bool.true_and]
    rw [e46_2]
    by_cases q : f (A1 n) = f (A2 n)
    · rw [B_pos q] at c4 c5
      rw [if_pos q] at e1
      by_cases q2 : A3 n = 1
      · have this := ih (n + 1) (by omega) (by rw [e1, q2]; decide)
        rw [show ((n + 1 : Nat) : Int) = (n : Int) + 1 from rfl] at this
        rw [q2] at c3
        simp (disch := first | omega | exact Nat.le_of_ble_eq_true rfl) only [e46_0, e46_1, e46_3, e46_4, e46_7, e46_10, e46_11, e46_12, e46_15, e46_16, e46_19, e46_20, e46_23, e46_24, e46_27, e46_30, e46_33, e46_34, e46_37, e46_38, e46_41, e46_44, e46_45, e46_46, e46_49, e46_52, e46_53, J_add, J_sub, J_mul, J_neg, J_lt, J_le, J_eq, gArr_J, gAst_J, gSiz_J, gFld_o, gUpd_o0, gUpd_o1, gUpd_o2, gUpd_o3, gUpd_o4, gUpd_o5, gUpd_o6, gUpd_o7, gUpd_o8, gUpd_o9, gUpd_o10, gUpd_o11, gUpd_o12, gUpd_o13, gUpd_o14, gUpd_o15, gUpd_o16, gUpd_o17, gUpd_o18, gIsO_o, Option.bind_some, List.getElem?_cons_zero, List.getElem?_cons_succ, List.length_cons, List.length_nil, List.set_cons_zero, List.set_cons_succ, gCat_nil, gCat_int, gCat_ref, if_pos, if_neg, Option.toList_some, Option.toList_none, List.cons_append, List.nil_append, B_nar, J1_nar, J0_nar, if_true, if_false, rd_wr_same, rd_wr_ne, true_and, and_true, B_0, B_1, not_true_eq_false, not_false_eq_true, rdE0, rdE1, rdE2, rdE3, rdE4, wE0, wE1, wE2, wE3, wE4, rdHn, wHc, hE2, c1, c2, c3, c4, c5, this]
      · have hF := fitP_false (by rw [e1]; exact decide_eq_false (fun e => q2 e.symm)) k
        rw [show n + 1 + k = N by omega] at hF
        rw [hF, B_neg (by decide)]
        have hne : ¬ (J 1 = J (A3 n)) := by rw [J_eq (by omega) (by omega)]; omega
        simp (disch := first | omega | exact Nat.le_of_ble_eq_true rfl) only [e46_0, e46_1, e46_3, e46_4, e46_7, e46_10, e46_11, e46_12, e46_15, e46_16, e46_19, e46_20, e46_23, e46_24, e46_27, e46_30, e46_33, e46_34, e46_37, e46_38, e46_41, e46_44, e46_45, e46_46, e46_49, e46_52, e46_53, J_add, J_sub, J_mul, J_neg, J_lt, J_le, J_eq, gArr_J, gAst_J, gSiz_J, gFld_o, gUpd_o0, gUpd_o1, gUpd_o2, gUpd_o3, gUpd_o4, gUpd_o5, gUpd_o6, gUpd_o7, gUpd_o8, gUpd_o9, gUpd_o10, gUpd_o11, gUpd_o12, gUpd_o13, gUpd_o14, gUpd_o15, gUpd_o16, gUpd_o17, gUpd_o18, gIsO_o, Option.bind_some, List.getElem?_cons_zero, List.getElem?_cons_succ, List.length_cons, List.length_nil, List.set_cons_zero, List.set_cons_succ, gCat_nil, gCat_int, gCat_ref, if_pos, if_neg, Option.toList_some, Option.toList_none, List.cons_append, List.nil_append, B_nar, J1_nar, J0_nar, if_true, if_false, rd_wr_same, rd_wr_ne, true_and, and_true, B_0, B_1, not_true_eq_false, not_false_eq_true, rdE0, rdE1, rdE2, rdE3, rdE4, wE0, wE1, wE2, wE3, wE4, rdHn, wHc, hE2, c1, c2, c3, c4, c5, hne]
    · rw [B_neg q] at c4 c5
      rw [if_neg q] at e1
      by_cases q2 : A3 n = 0
      · have this := ih (n + 1) (by omega) (by rw [e1, q2]; decide)
        rw [show ((n + 1 : Nat) : Int) = (n : Int) + 1 from rfl] at this
        rw [q2] at c3
        simp (disch := first | omega | exact Nat.le_of_ble_eq_true rfl) only [e46_0, e46_1, e46_3, e46_4, e46_7, e46_10, e46_11, e46_12, e46_15, e46_16, e46_19, e46_20, e46_23, e46_24, e46_27, e46_30, e46_33, e46_34, e46_37, e46_38, e46_41, e46_44, e46_45, e46_46, e46_49, e46_52, e46_53, J_add, J_sub, J_mul, J_neg, J_lt, J_le, J_eq, gArr_J, gAst_J, gSiz_J, gFld_o, gUpd_o0, gUpd_o1, gUpd_o2, gUpd_o3, gUpd_o4, gUpd_o5, gUpd_o6, gUpd_o7, gUpd_o8, gUpd_o9, gUpd_o10, gUpd_o11, gUpd_o12, gUpd_o13, gUpd_o14, gUpd_o15, gUpd_o16, gUpd_o17, gUpd_o18, gIsO_o, Option.bind_some, List.getElem?_cons_zero, List.getElem?_cons_succ, List.length_cons, List.length_nil, List.set_cons_zero, List.set_cons_succ, gCat_nil, gCat_int, gCat_ref, if_pos, if_neg, Option.toList_some, Option.toList_none, List.cons_append, List.nil_append, B_nar, J1_nar, J0_nar, if_true, if_false, rd_wr_same, rd_wr_ne, true_and, and_true, B_0, B_1, not_true_eq_false, not_false_eq_true, rdE0, rdE1, rdE2, rdE3, rdE4, wE0, wE1, wE2, wE3, wE4, rdHn, wHc, hE2, c1, c2, c3, c4, c5, this]
      · have hF := fitP_false (by rw [e1]; exact decide_eq_false (fun e => q2 e.symm)) k
        rw [show n + 1 + k = N by omega] at hF
        rw [hF, B_neg (by decide)]
        have hne : ¬ (J 0 = J (A3 n)) := by rw [J_eq (by omega) (by omega)]; omega
        simp (disch := first | omega | exact Nat.le_of_ble_eq_true rfl) only [e46_0, e46_1, e46_3, e46_4, e46_7, e46_10, e46_11, e46_12, e46_15, e46_16, e46_19, e46_20, e46_23, e46_24, e46_27, e46_30, e46_33, e46_34, e46_37, e46_38, e46_41, e46_44, e46_45, e46_46, e46_49, e46_52, e46_53, J_add, J_sub, J_mul, J_neg, J_lt, J_le, J_eq, gArr_J, gAst_J, gSiz_J, gFld_o, gUpd_o0, gUpd_o1, gUpd_o2, gUpd_o3, gUpd_o4, gUpd_o5, gUpd_o6, gUpd_o7, gUpd_o8, gUpd_o9, gUpd_o10, gUpd_o11, gUpd_o12, gUpd_o13, gUpd_o14, gUpd_o15, gUpd_o16, gUpd_o17, gUpd_o18, gIsO_o, Option.bind_some, List.getElem?_cons_zero, List.getElem?_cons_succ, List.length_cons, List.length_nil, List.set_cons_zero, List.set_cons_succ, gCat_nil, gCat_int, gCat_ref, if_pos, if_neg, Option.toList_some, Option.toList_none, List.cons_append, List.nil_append, B_nar, J1_nar, J0_nar, if_true, if_false, rd_wr_same, rd_wr_ne, true_and, and_true, B_0, B_1, not_true_eq_false, not_false_eq_true, rdE0, rdE1, rdE2, rdE3, rdE4, wE0, wE1, wE2, wE3, wE4, rdHn, wHc, hE2, c1, c2, c3, c4, c5, hne]

theorem s46 {nat : gNat} {d : Nat} {w : gWd} {x h : Nat} {hd st lo bp bq : Int} {A1 A2 A3 A4 f : Int → Int} (hx : x + 4 < gSTR) (hh : isHp w h) (hxh : h + 1 < x ∨ x + 4 < h) (hf : ∀ x, 0 ≤ x → x < 8 → 0 ≤ f x ∧ f x < 8) {N : Nat} (hN : hd = N) (hN8 : N ≤ 8) (hA : ∀ i : Int, 0 ≤ i → i < N → (0 ≤ A1 i ∧ A1 i < 8) ∧ (0 ≤ A2 i ∧ A2 i < 8) ∧ (0 ≤ A3 i ∧ A3 i ≤ 1)) : gC nat (d + 3) 46 [.ref x, .ref h] (putH (putE w x hd st lo bp bq A1 A2 A3 A4) h f) = some (some (.int (B (fitP f A1 A2 A3 N = true))), (putH (putE w x hd st lo bp bq A1 A2 A3 A4) h f)) := by
  rw [en46]
  have := l46 (nat := nat) (d := d) (w := w) (st := st) (lo := lo) (bp := bp) (bq := bq) (A4 := A4) hx hh hxh hf hN hN8 hA N 0 (by omega) rfl
  simp (disch := first | omega | exact Nat.le_of_ble_eq_true rfl) only [e46_0, e46_1, e46_3, e46_4, e46_7, e46_10, e46_11, e46_12, e46_15, e46_16, e46_19, e46_20, e46_23, e46_24, e46_27, e46_30, e46_33, e46_34, e46_37, e46_38, e46_41, e46_44, e46_45, e46_46, e46_49, e46_52, e46_53, J_add, J_sub, J_mul, J_neg, J_lt, J_le, J_eq, gArr_J, gAst_J, gSiz_J, gFld_o, gUpd_o0, gUpd_o1, gUpd_o2, gUpd_o3, gUpd_o4, gUpd_o5, gUpd_o6, gUpd_o7, gUpd_o8, gUpd_o9, gUpd_o10, gUpd_o11, gUpd_o12, gUpd_o13, gUpd_o14, gUpd_o15, gUpd_o16, gUpd_o17, gUpd_o18, gIsO_o, Option.bind_some, List.getElem?_cons_zero, List.getElem?_cons_succ, List.length_cons, List.length_nil, List.set_cons_zero, List.set_cons_succ, gCat_nil, gCat_int, gCat_ref, if_pos, if_neg, Option.toList_some, Option.toList_none, List.cons_append, List.nil_append, B_nar, J1_nar, J0_nar, if_true, if_false, rd_wr_same, rd_wr_ne, true_and, and_true, B_0, B_1, not_true_eq_false, not_false_eq_true]
  exact this

def cpI (f X : Int → Int) (P p q : Int) : Int → Int := fun i => if (p < i / 8 ∨ (p = i / 8 ∧ q ≤ i % 8)) ∧ i / 8 < i % 8 ∧ i % 8 < P ∧ f (i / 8) = f (i % 8) then X i + 1 else X i
theorem l47i {nat : gNat} {d : Nat} {w : gWd} {x h m : Nat} {K : Lay} {hd st lo bp bq : Int} {A1 A2 A3 f : Int → Int} (hx : x + 4 < gSTR) (hh : isHp w h) (hxh : h + 1 < x ∨ x + 4 < h) (hm : isMe w m K) (hK : vK K) (hmx : m + 3 < x ∨ x + 4 < m) (hmh : m + 3 < h ∨ h + 1 < m) (hf : ∀ x, 0 ≤ x → x < 8 → 0 ≤ f x ∧ f x < 8) {p : Int} (hp : 0 ≤ p ∧ p < K 0 0) : ∀ (k : Nat) (q : Int) (z : Option Value) (A4 : Int → Int), q + k = K 0 0 → p < q → ∃ z', gX (gC nat (d + 2)) nat 47 15 [some (.ref x), some (.ref m), some (.ref h), some (.int (J p)), some (.int (J q)), z] [] [] (putH (putE w x hd st lo bp bq A1 A2 A3 A4) h f) = gX (gC nat (d + 2)) nat 47 69 [some (.ref x), some (.ref m), some (.ref h), some (.int (J p)), some (.int (J (K 0 0))), z'] [] [] (putH (putE w x hd st lo bp bq A1 A2 A3 (fun i => if i / 8 = p then cpI f A4 (K 0 0) p q i else A4 i)) h f) := by
  have hh1 := hh.1
  have hE : ∀ A4, isHp (putE w x hd st lo bp bq A1 A2 A3 A4) h := fun A4 => isHp_putE hh hxh
  have r0 : ∀ A4, rd (putH (putE w x hd st lo bp bq A1 A2 A3 A4) h f) m = oC 2 [.int (J (K 0 0)), .int (J (K 0 1)), .int (J (K 0 2)), .int (J (K 0 3)), .int (J (K 0 4)), .ref (m + 1), .ref (m + 2), .ref (m + 3)] := fun A4 => by rw [rdHn (by omega), rdEn (by omega)]; exact hm.2.1
  have hE2 := fun A4 => (hE A4).2
  have k0 := hK.1
  have x4 : x + 4 < gSTR := hx
  intro k
  induction k with
  | zero =>
    intro q z A4 hq hpq
    refine ⟨z, ?_⟩
    have e0 : q = K 0 0 := by omega
    subst e0
    have e : (fun i => if i / 8 = p then cpI f A4 (K 0 0) p (K 0 0) i else A4 i) = A4 := funext fun i => by
      unfold cpI
      split
      · rw [if_neg (by omega)]
      · rfl
    rw [e, e47_15]
    simp (disch := first | omega | exact Nat.le_of_ble_eq_true rfl) only [e47_0, e47_1, e47_2, e47_3, e47_4, e47_7, e47_10, e47_11, e47_12, e47_13, e47_17, e47_18, e47_21, e47_24, e47_25, e47_26, e47_28, e47_31, e47_34, e47_35, e47_37, e47_38, e47_40, e47_41, e47_43, e47_44, e47_47, e47_49, e47_50, e47_53, e47_55, e47_58, e47_59, e47_60, e47_63, e47_66, e47_72, e47_75, J_add, J_sub, J_mul, J_neg, J_lt, J_le, J_eq, gArr_J, gAst_J, gSiz_J, gFld_o, gUpd_o0, gUpd_o1, gUpd_o2, gUpd_o3, gUpd_o4, gUpd_o5, gUpd_o6, gUpd_o7, gUpd_o8, gUpd_o9, gUpd_o10, gUpd_o11, gUpd_o12, gUpd_o13, gUpd_o14, gUpd_o15, gUpd_o16, gUpd_o17, gUpd_o18, gIsO_o, Option.bind_some, List.getElem?_cons_zero, List.getElem?_cons_succ, List.length_cons, List.length_nil, List.set_cons_zero, List.set_cons_succ, gCat_nil, gCat_int, gCat_ref, if_pos, if_neg, Option.toList_some, Option.toList_none, List.cons_append, List.nil_append, B_nar, J1_nar, J0_nar, if_true, if_false, rd_wr_same, rd_wr_ne, true_and, and_true, B_0, B_1, not_true_eq_false, not_false_eq_true, rdE0, rdE1, rdE2, rdE3, rdE4, wE0, wE1, wE2, wE3, wE4, rdHn, wHc, r0]
  | succ k ih =>
    intro q z A4 hq hpq
    have c1 := s9 (nat := nat) (d := d) (f := f) (hE A4) (x := p) (y := q) (by omega) (by omega) hf
    by_cases e : f p = f q
    · rw [B_pos e] at c1
      obtain ⟨z', hz⟩ := ih (q + 1) (some (.int (J (p * 8 + q)))) (fset A4 (p * 8 + q) (A4 (p * 8 + q) + 1)) (by omega) (by omega)
      refine ⟨z', ?_⟩
      have c2 := s117 (nat := nat) (d := d + 1) (w := putH (putE w x hd st lo bp bq A1 A2 A3 A4) h f) (a := x + 4) (n := 64) (f := A4) (i := p * 8 + q) (by rw [rdHn (by omega)]; exact rdE4) hx (by omega) (by omega)
      have c3 : ∀ v, gC nat (d + 2) 118 [.ref (x + 4), .int (J (p * 8 + q)), .int (J v)] (putH (putE w x hd st lo bp bq A1 A2 A3 A4) h f) = some (none, putH (putE w x hd st lo bp bq A1 A2 A3 (fset A4 (p * 8 + q) v)) h f) := fun v => by rw [s118 (n := 64) (f := A4) (by rw [rdHn (by omega)]; exact rdE4) hx (by omega) (by omega), wHc (by omega), wE4]
      have e2 : (fun i => if i / 8 = p then cpI f (fset A4 (p * 8 + q) (A4 (p * 8 + q) + 1)) (K 0 0) p (q + 1) i else fset A4 (p * 8 + q) (A4 (p * 8 + q) + 1) i) = (fun i => if i / 8 = p then cpI f A4 (K 0 0) p q i else A4 i) := funext fun i => by
        unfold cpI fset
        by_cases hi : i / 8 = p
        · rw [if_pos hi, if_pos hi]
          by_cases hj : i % 8 = q
          · rw [if_neg (by omega), if_pos (by omega), if_pos ⟨by omega, by omega, by omega, by rw [hi, hj]; exact e⟩, show i = p * 8 + q by omega]
          · rw [if_neg (show ¬ i = p * 8 + q by omega)]
            repeat' split
            all_goals first | rfl | omega
        · rw [if_neg hi, if_neg hi, if_neg (by omega)]
      rw [e2] at hz
      rw [← hz, e47_15]
      simp (disch := first | omega | exact Nat.le_of_ble_eq_true rfl) only [e47_0, e47_1, e47_2, e47_3, e47_4, e47_7, e47_10, e47_11, e47_12, e47_13, e47_17, e47_18, e47_21, e47_24, e47_25, e47_26, e47_28, e47_31, e47_34, e47_35, e47_37, e47_38, e47_40, e47_41, e47_43, e47_44, e47_47, e47_49, e47_50, e47_53, e47_55, e47_58, e47_59, e47_60, e47_63, e47_66, e47_72, e47_75, J_add, J_sub, J_mul, J_neg, J_lt, J_le, J_eq, gArr_J, gAst_J, gSiz_J, gFld_o, gUpd_o0, gUpd_o1, gUpd_o2, gUpd_o3, gUpd_o4, gUpd_o5, gUpd_o6, gUpd_o7, gUpd_o8, gUpd_o9, gUpd_o10, gUpd_o11, gUpd_o12, gUpd_o13, gUpd_o14, gUpd_o15, gUpd_o16, gUpd_o17, gUpd_o18, gIsO_o, Option.bind_some, List.getElem?_cons_zero, List.getElem?_cons_succ, List.length_cons, List.length_nil, List.set_cons_zero, List.set_cons_succ, gCat_nil, gCat_int, gCat_ref, if_pos, if_neg, Option.toList_some, Option.toList_none, List.cons_append, List.nil_append, B_nar, J1_nar, J0_nar, if_true, if_false, rd_wr_same, rd_wr_ne, true_and, and_true, B_0, B_1, not_true_eq_false, not_false_eq_true, rdE0, rdE1, rdE2, rdE3, rdE4, wE0, wE1, wE2, wE3, wE4, rdHn, wHc, r0, c1, c2, c3, hE2]
    · rw [B_neg e] at c1
      obtain ⟨z', hz⟩ := ih (q + 1) z A4 (by omega) (by omega)
      refine ⟨z', ?_⟩
      have e2 : (fun i => if i / 8 = p then cpI f A4 (K 0 0) p (q + 1) i else A4 i) = (fun i => if i / 8 = p then cpI f A4 (K 0 0) p q i else A4 i) := funext fun i => by
        unfold cpI
        by_cases hi : i / 8 = p
        · rw [if_pos hi, if_pos hi]
          by_cases hj : i % 8 = q
          · rw [if_neg (by omega), if_neg (fun s => e (by rw [← hj, ← hi]; exact s.2.2.2))]
          · repeat' split
            all_goals first | rfl | omega
        · rw [if_neg hi, if_neg hi]
      rw [e2] at hz
      rw [← hz, e47_15]
      simp (disch := first | omega | exact Nat.le_of_ble_eq_true rfl) only [e47_0, e47_1, e47_2, e47_3, e47_4, e47_7, e47_10, e47_11, e47_12, e47_13, e47_17, e47_18, e47_21, e47_24, e47_25, e47_26, e47_28, e47_31, e47_34, e47_35, e47_37, e47_38, e47_40, e47_41, e47_43, e47_44, e47_47, e47_49, e47_50, e47_53, e47_55, e47_58, e47_59, e47_60, e47_63, e47_66, e47_72, e47_75, J_add, J_sub, J_mul, J_neg, J_lt, J_le, J_eq, gArr_J, gAst_J, gSiz_J, gFld_o, gUpd_o0, gUpd_o1, gUpd_o2, gUpd_o3, gUpd_o4, gUpd_o5, gUpd_o6, gUpd_o7, gUpd_o8, gUpd_o9, gUpd_o10, gUpd_o11, gUpd_o12, gUpd_o13, gUpd_o14, gUpd_o15, gUpd_o16, gUpd_o17, gUpd_o18, gIsO_o, Option.bind_some, List.getElem?_cons_zero, List.getElem?_cons_succ, List.length_cons, List.length_nil, List.set_cons_zero, List.set_cons_succ, gCat_nil, gCat_int, gCat_ref, if_pos, if_neg, Option.toList_some, Option.toList_none, List.cons_append, List.nil_append, B_nar, J1_nar, J0_nar, if_true, if_false, rd_wr_same, rd_wr_ne, true_and, and_true, B_0, B_1, not_true_eq_false, not_false_eq_true, rdE0, rdE1, rdE2, rdE3, rdE4, wE0, wE1, wE2, wE3, wE4, rdHn, wHc, r0, c1, hE2]
