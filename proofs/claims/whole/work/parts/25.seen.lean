/-! what was seen: an object at x, four rows behind it -/
def putE (w : gWd) (x : Nat) (hd st lo bp bq : Int) (A1 A2 A3 A4 : Int → Int) : gWd := wr (wr (wr (wr (wr w x (oC 5 [.int (J hd), .int (J st), .int (J lo), .int (J bp), .int (J bq), .ref (x + 1), .ref (x + 2), .ref (x + 3), .ref (x + 4)])) (x + 1) (iC 8 (eI A1))) (x + 2) (iC 8 (eI A2))) (x + 3) (iC 8 (eI A3))) (x + 4) (iC 64 (eI A4))
theorem rdE0 {w : gWd} {x : Nat} {hd st lo bp bq : Int} {A1 A2 A3 A4 : Int → Int} : rd (putE w x hd st lo bp bq A1 A2 A3 A4) x = oC 5 [.int (J hd), .int (J st), .int (J lo), .int (J bp), .int (J bq), .ref (x + 1), .ref (x + 2), .ref (x + 3), .ref (x + 4)] := by
  unfold putE
  simp (disch := omega) only [rd_wr_ne, rd_wr_same]
theorem rdE1 {w : gWd} {x : Nat} {hd st lo bp bq : Int} {A1 A2 A3 A4 : Int → Int} : rd (putE w x hd st lo bp bq A1 A2 A3 A4) (x + 1) = iC 8 (eI A1) := by
  unfold putE
  simp (disch := omega) only [rd_wr_ne, rd_wr_same]
theorem rdE2 {w : gWd} {x : Nat} {hd st lo bp bq : Int} {A1 A2 A3 A4 : Int → Int} : rd (putE w x hd st lo bp bq A1 A2 A3 A4) (x + 2) = iC 8 (eI A2) := by
  unfold putE
  simp (disch := omega) only [rd_wr_ne, rd_wr_same]
theorem rdE3 {w : gWd} {x : Nat} {hd st lo bp bq : Int} {A1 A2 A3 A4 : Int → Int} : rd (putE w x hd st lo bp bq A1 A2 A3 A4) (x + 3) = iC 8 (eI A3) := by
  unfold putE
  simp (disch := omega) only [rd_wr_ne, rd_wr_same]
theorem rdE4 {w : gWd} {x : Nat} {hd st lo bp bq : Int} {A1 A2 A3 A4 : Int → Int} : rd (putE w x hd st lo bp bq A1 A2 A3 A4) (x + 4) = iC 64 (eI A4) := by
  unfold putE
  simp (disch := omega) only [rd_wr_ne, rd_wr_same]
theorem rdEn {w : gWd} {x : Nat} {hd st lo bp bq : Int} {A1 A2 A3 A4 : Int → Int} {b : Nat} (h : b < x ∨ x + 4 < b) : rd (putE w x hd st lo bp bq A1 A2 A3 A4) b = rd w b := by
  unfold putE
  simp (disch := omega) only [rd_wr_ne]
theorem putE_rd {w : gWd} {x : Nat} {hd st lo bp bq : Int} {A1 A2 A3 A4 : Int → Int} {w2 : gWd} (hz : w2.2 = w.2) (h0 : rd w2 x = oC 5 [.int (J hd), .int (J st), .int (J lo), .int (J bp), .int (J bq), .ref (x + 1), .ref (x + 2), .ref (x + 3), .ref (x + 4)]) (h1 : rd w2 (x + 1) = iC 8 (eI A1)) (h2 : rd w2 (x + 2) = iC 8 (eI A2)) (h3 : rd w2 (x + 3) = iC 8 (eI A3)) (h4 : rd w2 (x + 4) = iC 64 (eI A4)) (hn : ∀ b, (b < x ∨ x + 4 < b) → rd w2 b = rd w b) : w2 = putE w x hd st lo bp bq A1 A2 A3 A4 := by
  refine Prod.ext (funext fun b => ?_) hz
  show rd w2 b = rd (putE w x hd st lo bp bq A1 A2 A3 A4) b
  by_cases hb : b < x ∨ x + 4 < b
  · rw [hn b hb, rdEn hb]
  · have hx : b = x ∨ b = x + 1 ∨ b = x + 2 ∨ b = x + 3 ∨ b = x + 4 := by omega
    rcases hx with rfl | rfl | rfl | rfl | rfl
    · rw [h0, rdE0]
    · rw [h1, rdE1]
    · rw [h2, rdE2]
    · rw [h3, rdE3]
    · rw [h4, rdE4]
theorem wE0 {w : gWd} {x : Nat} {hd st lo bp bq : Int} {A1 A2 A3 A4 : Int → Int} {hd' st' lo' bp' bq' : Int} : wr (putE w x hd st lo bp bq A1 A2 A3 A4) x (oC 5 [.int (J hd'), .int (J st'), .int (J lo'), .int (J bp'), .int (J bq'), .ref (x + 1), .ref (x + 2), .ref (x + 3), .ref (x + 4)]) = putE w x hd' st' lo' bp' bq' A1 A2 A3 A4 := putE_rd (by rfl) rd_wr_same (by rw [rd_wr_ne (by omega)]; exact rdE1) (by rw [rd_wr_ne (by omega)]; exact rdE2) (by rw [rd_wr_ne (by omega)]; exact rdE3) (by rw [rd_wr_ne (by omega)]; exact rdE4) (fun b hb => by rw [rd_wr_ne (by omega), rdEn hb])
theorem wE1 {w : gWd} {x : Nat} {hd st lo bp bq : Int} {A1 A2 A3 A4 : Int → Int} {B : Int → Int} : wr (putE w x hd st lo bp bq A1 A2 A3 A4) (x + 1) (iC 8 (eI B)) = putE w x hd st lo bp bq B A2 A3 A4 := putE_rd (by rfl) (by rw [rd_wr_ne (by omega)]; exact rdE0) rd_wr_same (by rw [rd_wr_ne (by omega)]; exact rdE2) (by rw [rd_wr_ne (by omega)]; exact rdE3) (by rw [rd_wr_ne (by omega)]; exact rdE4) (fun b hb => by rw [rd_wr_ne (by omega), rdEn hb])
theorem wE2 {w : gWd} {x : Nat} {hd st lo bp bq : Int} {A1 A2 A3 A4 : Int → Int} {B : Int → Int} : wr (putE w x hd st lo bp bq A1 A2 A3 A4) (x + 2) (iC 8 (eI B)) = putE w x hd st lo bp bq A1 B A3 A4 := putE_rd (by rfl) (by rw [rd_wr_ne (by omega)]; exact rdE0) (by rw [rd_wr_ne (by omega)]; exact rdE1) rd_wr_same (by rw [rd_wr_ne (by omega)]; exact rdE3) (by rw [rd_wr_ne (by omega)]; exact rdE4) (fun b hb => by rw [rd_wr_ne (by omega), rdEn hb])
theorem wE3 {w : gWd} {x : Nat} {hd st lo bp bq : Int} {A1 A2 A3 A4 : Int → Int} {B : Int → Int} : wr (putE w x hd st lo bp bq A1 A2 A3 A4) (x + 3) (iC 8 (eI B)) = putE w x hd st lo bp bq A1 A2 B A4 := putE_rd (by rfl) (by rw [rd_wr_ne (by omega)]; exact rdE0) (by rw [rd_wr_ne (by omega)]; exact rdE1) (by rw [rd_wr_ne (by omega)]; exact rdE2) rd_wr_same (by rw [rd_wr_ne (by omega)]; exact rdE4) (fun b hb => by rw [rd_wr_ne (by omega), rdEn hb])
theorem wE4 {w : gWd} {x : Nat} {hd st lo bp bq : Int} {A1 A2 A3 A4 : Int → Int} {B : Int → Int} : wr (putE w x hd st lo bp bq A1 A2 A3 A4) (x + 4) (iC 64 (eI B)) = putE w x hd st lo bp bq A1 A2 A3 B := putE_rd (by rfl) (by rw [rd_wr_ne (by omega)]; exact rdE0) (by rw [rd_wr_ne (by omega)]; exact rdE1) (by rw [rd_wr_ne (by omega)]; exact rdE2) (by rw [rd_wr_ne (by omega)]; exact rdE3) rd_wr_same (fun b hb => by rw [rd_wr_ne (by omega), rdEn hb])

theorem s42 {nat : gNat} {d : Nat} {w : gWd} {x : Nat} {hd st lo bp bq : Int} {A1 A2 A3 A4 : Int → Int} (hx : x + 4 < gSTR)  : gC nat (d + 1) 42 [.ref x] (putE w x hd st lo bp bq A1 A2 A3 A4) = some (none, putE w x 0 st lo bp bq A1 A2 A3 A4) := by
  rw [en42]
  simp (disch := first | omega | exact Nat.le_of_ble_eq_true rfl) only [e42_0, e42_1, e42_2, e42_5, J_add, J_sub, J_mul, J_neg, J_lt, J_le, J_eq, gArr_J, gAst_J, gSiz_J, gFld_o, gUpd_o0, gUpd_o1, gUpd_o2, gUpd_o3, gUpd_o4, gUpd_o5, gUpd_o6, gUpd_o7, gUpd_o8, gUpd_o9, gUpd_o10, gUpd_o11, gUpd_o12, gUpd_o13, gUpd_o14, gUpd_o15, gUpd_o16, gUpd_o17, gUpd_o18, gIsO_o, Option.bind_some, List.getElem?_cons_zero, List.getElem?_cons_succ, List.length_cons, List.length_nil, List.set_cons_zero, List.set_cons_succ, gCat_nil, gCat_int, gCat_ref, if_pos, if_neg, Option.toList_some, Option.toList_none, List.cons_append, List.nil_append, B_nar, J1_nar, J0_nar, if_true, if_false, rd_wr_same, rd_wr_ne, true_and, and_true, B_0, B_1, not_true_eq_false, not_false_eq_true, rdE0, rdE1, rdE2, rdE3, rdE4, wE0, wE1, wE2, wE3, wE4]

theorem s43 {nat : gNat} {d : Nat} {w : gWd} {x : Nat} {hd st lo bp bq : Int} {A1 A2 A3 A4 : Int → Int} (hx : x + 4 < gSTR) {a b c : Int} (hh : 0 ≤ hd ∧ hd < 8) : gC nat (d + 2) 43 [.ref x, .int (J a), .int (J b), .int (J c)] (putE w x hd st lo bp bq A1 A2 A3 A4) = some (none, putE w x (hd + 1) st lo bp bq (fset A1 hd a) (fset A2 hd b) (fset A3 hd c) A4) := by
  rw [en43]
  have x1 : x + 1 < gSTR := by omega
  have x2 : x + 2 < gSTR := by omega
  have x3 : x + 3 < gSTR := by omega
  have c1 : ∀ (hd st lo bp bq : Int) (A1 A2 A3 A4 : Int → Int) (i v : Int), (0 ≤ i ∧ i < 8) → gC nat (d + 1) 118 [.ref (x + 1), .int (J i), .int (J v)] (putE w x hd st lo bp bq A1 A2 A3 A4) = some (none, putE w x hd st lo bp bq (fset A1 i v) A2 A3 A4) := fun hd st lo bp bq A1 A2 A3 A4 i v h => by rw [s118 rdE1 x1 (by omega) (by omega), wE1]
  have c2 : ∀ (hd st lo bp bq : Int) (A1 A2 A3 A4 : Int → Int) (i v : Int), (0 ≤ i ∧ i < 8) → gC nat (d + 1) 118 [.ref (x + 2), .int (J i), .int (J v)] (putE w x hd st lo bp bq A1 A2 A3 A4) = some (none, putE w x hd st lo bp bq A1 (fset A2 i v) A3 A4) := fun hd st lo bp bq A1 A2 A3 A4 i v h => by rw [s118 rdE2 x2 (by omega) (by omega), wE2]
  have c3 : ∀ (hd st lo bp bq : Int) (A1 A2 A3 A4 : Int → Int) (i v : Int), (0 ≤ i ∧ i < 8) → gC nat (d + 1) 118 [.ref (x + 3), .int (J i), .int (J v)] (putE w x hd st lo bp bq A1 A2 A3 A4) = some (none, putE w x hd st lo bp bq A1 A2 (fset A3 i v) A4) := fun hd st lo bp bq A1 A2 A3 A4 i v h => by rw [s118 rdE3 x3 (by omega) (by omega), wE3]
  simp (disch := first | omega | exact Nat.le_of_ble_eq_true rfl) only [e43_0, e43_1, e43_4, e43_5, e43_8, e43_9, e43_12, e43_13, e43_16, e43_17, e43_20, e43_21, e43_24, e43_25, e43_28, e43_29, e43_32, e43_33, e43_36, e43_37, e43_37i, e43_38, e43_41, e43_42, e43_43, e43_46, J_add, J_sub, J_mul, J_neg, J_lt, J_le, J_eq, gArr_J, gAst_J, gSiz_J, gFld_o, gUpd_o0, gUpd_o1, gUpd_o2, gUpd_o3, gUpd_o4, gUpd_o5, gUpd_o6, gUpd_o7, gUpd_o8, gUpd_o9, gUpd_o10, gUpd_o11, gUpd_o12, gUpd_o13, gUpd_o14, gUpd_o15, gUpd_o16, gUpd_o17, gUpd_o18, gIsO_o, Option.bind_some, List.getElem?_cons_zero, List.getElem?_cons_succ, List.length_cons, List.length_nil, List.set_cons_zero, List.set_cons_succ, gCat_nil, gCat_int, gCat_ref, if_pos, if_neg, Option.toList_some, Option.toList_none, List.cons_append, List.nil_append, B_nar, J1_nar, J0_nar, if_true, if_false, rd_wr_same, rd_wr_ne, true_and, and_true, B_0, B_1, not_true_eq_false, not_false_eq_true, rdE0, rdE1, rdE2, rdE3, rdE4, wE0, wE1, wE2, wE3, wE4, c1, c2, c3]

theorem l45 {nat : gNat} {d : Nat} {w : gWd} {x : Nat} {hd st lo bp bq : Int} {A1 A2 A3 : Int → Int} (hx : x + 4 < gSTR) : ∀ (k n : Nat) (A4 : Int → Int), n + k = 64 → (∀ i : Int, 0 ≤ i → i < n → A4 i = 0) → (∀ i : Int, 64 ≤ i → A4 i = 0) → gX (gC nat d) nat 45 13 [some (.ref x), some (.int (J n))] [] [] (putE w x hd st lo bp bq A1 A2 A3 A4) = some (none, putE w x hd st lo bp bq A1 A2 A3 (fun _ => 0)) := by
  intro k
  induction k with
  | zero =>
    intro n A4 hn h0 h1
    rw [Nat.add_zero] at hn
    subst hn
    rw [e45_13]
    simp (disch := first | omega | exact Nat.le_of_ble_eq_true rfl) only [e45_0, e45_1, e45_2, e45_5, e45_6, e45_8, e45_11, e45_12, e45_14, e45_15, e45_18, e45_19, e45_22, e45_23, e45_26, e45_27, e45_28, e45_29, e45_32, e45_35, J_add, J_sub, J_mul, J_neg, J_lt, J_le, J_eq, gArr_J, gAst_J, gSiz_J, gFld_o, gUpd_o0, gUpd_o1, gUpd_o2, gUpd_o3, gUpd_o4, gUpd_o5, gUpd_o6, gUpd_o7, gUpd_o8, gUpd_o9, gUpd_o10, gUpd_o11, gUpd_o12, gUpd_o13, gUpd_o14, gUpd_o15, gUpd_o16, gUpd_o17, gUpd_o18, gIsO_o, Option.bind_some, List.getElem?_cons_zero, List.getElem?_cons_succ, List.length_cons, List.length_nil, List.set_cons_zero, List.set_cons_succ, gCat_nil, gCat_int, gCat_ref, if_pos, if_neg, Option.toList_some, Option.toList_none, List.cons_append, List.nil_append, B_nar, J1_nar, J0_nar, if_true, if_false, rd_wr_same, rd_wr_ne, true_and, and_true, B_0, B_1, not_true_eq_false, not_false_eq_true, rdE0, rdE1, rdE2, rdE3, rdE4, wE0, wE1, wE2, wE3, wE4, hx]
    congr 2
    have e : eI A4 = eI (fun _ => 0) := funext fun i => by
      unfold eI
      by_cases h : (i : Int) < 64
      · rw [h0 i (by omega) (by omega)]
      · rw [h1 i (by omega)]
    unfold putE
    rw [e]
  | succ k ih =>
    intro n A4 hn h0 h1
    have this := ih (n + 1) (fset A4 n 0) (by omega) (fun i q1 q2 => by
      by_cases q : i = n
      · subst q; exact fset_at
      · rw [fset_ne q]; exact h0 i q1 (by omega)) (fun i q => by rw [fset_ne (by omega)]; exact h1 i q)
    rw [show ((n + 1 : Nat) : Int) = (n : Int) + 1 from rfl] at this
    rw [e45_13]
    simp (disch := first | omega | exact Nat.le_of_ble_eq_true rfl) only [e45_0, e45_1, e45_2, e45_5, e45_6, e45_8, e45_11, e45_12, e45_14, e45_15, e45_18, e45_19, e45_22, e45_23, e45_26, e45_27, e45_28, e45_29, e45_32, e45_35, J_add, J_sub, J_mul, J_neg, J_lt, J_le, J_eq, gArr_J, gAst_J, gSiz_J, gFld_o, gUpd_o0, gUpd_o1, gUpd_o2, gUpd_o3, gUpd_o4, gUpd_o5, gUpd_o6, gUpd_o7, gUpd_o8, gUpd_o9, gUpd_o10, gUpd_o11, gUpd_o12, gUpd_o13, gUpd_o14, gUpd_o15, gUpd_o16, gUpd_o17, gUpd_o18, gIsO_o, Option.bind_some, List.getElem?_cons_zero, List.getElem?_cons_succ, List.length_cons, List.length_nil, List.set_cons_zero, List.set_cons_succ, gCat_nil, gCat_int, gCat_ref, if_pos, if_neg, Option.toList_some, Option.toList_none, List.cons_append, List.nil_append, B_nar, J1_nar, J0_nar, if_true, if_false, rd_wr_same, rd_wr_ne, true_and, and_true, B_0, B_1, not_true_eq_false, not_false_eq_true, rdE0, rdE1, rdE2, rdE3, rdE4, wE0, wE1, wE2, wE3, wE4, hx, this]

theorem s45 {nat : gNat} {d : Nat} {w : gWd} {x : Nat} {hd st lo bp bq : Int} {A1 A2 A3 A4 : Int → Int} (hx : x + 4 < gSTR) (h4 : ∀ i : Int, 64 ≤ i → A4 i = 0) : gC nat (d + 1) 45 [.ref x] (putE w x hd st lo bp bq A1 A2 A3 A4) = some (none, putE w x hd 0 (-4) bp bq A1 A2 A3 (fun _ => 0)) := by
  rw [en45]
  simp (disch := first | omega | exact Nat.le_of_ble_eq_true rfl) only [e45_0, e45_1, e45_2, e45_5, e45_6, e45_8, e45_11, e45_12, e45_14, e45_15, e45_18, e45_19, e45_22, e45_23, e45_26, e45_27, e45_28, e45_29, e45_32, e45_35, J_add, J_sub, J_mul, J_neg, J_lt, J_le, J_eq, gArr_J, gAst_J, gSiz_J, gFld_o, gUpd_o0, gUpd_o1, gUpd_o2, gUpd_o3, gUpd_o4, gUpd_o5, gUpd_o6, gUpd_o7, gUpd_o8, gUpd_o9, gUpd_o10, gUpd_o11, gUpd_o12, gUpd_o13, gUpd_o14, gUpd_o15, gUpd_o16, gUpd_o17, gUpd_o18, gIsO_o, Option.bind_some, List.getElem?_cons_zero, List.getElem?_cons_succ, List.length_cons, List.length_nil, List.set_cons_zero, List.set_cons_succ, gCat_nil, gCat_int, gCat_ref, if_pos, if_neg, Option.toList_some, Option.toList_none, List.cons_append, List.nil_append, B_nar, J1_nar, J0_nar, if_true, if_false, rd_wr_same, rd_wr_ne, true_and, and_true, B_0, B_1, not_true_eq_false, not_false_eq_true, rdE0, rdE1, rdE2, rdE3, rdE4, wE0, wE1, wE2, wE3, wE4]
  exact l45 hx 64 0 A4 (by omega) (fun i h1 h2 => absurd h2 (by omega)) h4
