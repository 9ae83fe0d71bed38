theorem rd_wr {w : gWd} {a b : Nat} {c : gCell} : rd (wr w a c) b = if b = a then c else rd w b := rfl
theorem isSt_wr {w : gWd} {a b : Nat} {c : gCell} {S : Lay} (h : isSt w b S) (hab : a < b ∨ b + 3 < a) : isSt (wr w a c) b S := by
  obtain ⟨h0, h1, h2, h3, h4⟩ := h
  exact ⟨h0, by rw [rd_wr_ne (by omega)]; exact h1, by rw [rd_wr_ne (by omega)]; exact h2, by rw [rd_wr_ne (by omega)]; exact h3, by rw [rd_wr_ne (by omega)]; exact h4⟩
/-- copyFrom on any world -/
theorem s58w {nat : gNat} {d : Nat} {w : gWd} {a b : Nat} {S T : Lay} (ha : isSt w a S) (hb : isSt w b T) (ho : b + 3 < a ∨ a + 3 < b) (hS : nS S) (hT : nS T) : gC nat (d + 2) 58 [.ref a, .ref b] w = some (none, putS w a T) := by
  have h := s58 (nat := nat) (d := d) (w := w) (a := a) (b := b) (S := S) (T := T) ha.1 hb ho hS hT
  rw [putS_self ha] at h
  exact h
theorem isSh_head {w w' : gWd} {x n : Nat} {hd od hd' od' : Int} {T : Nat → Lay} (h : isSh w x n hd od T) (h1 : rd w' x = oC 6 [.int (J hd'), .int (J od'), .ref (x + 1)]) (h2 : ∀ q, q ≠ x → rd w' q = rd w q) : isSh w' x n hd' od' T := by
  obtain ⟨g0, g1, g2, g3⟩ := h
  refine ⟨g0, h1, by rw [h2 _ (by omega)]; exact g2, fun i hi => ?_⟩
  obtain ⟨⟨a0, a1, a2, a3, a4⟩, hn⟩ := g3 i hi
  exact ⟨⟨a0, by rw [h2 _ (by omega)]; exact a1, by rw [h2 _ (by omega)]; exact a2, by rw [h2 _ (by omega)]; exact a3, by rw [h2 _ (by omega)]; exact a4⟩, hn⟩
theorem isSh_put {w : gWd} {x n : Nat} {hd od : Int} {T : Nat → Lay} (h : isSh w x n hd od T) {k : Nat} (hk : k < n) {S : Lay} (hS : nS S) : isSh (putS w (x + 2 + 4 * k) S) x n hd od (fun i => if i = k then S else T i) := by
  obtain ⟨g0, g1, g2, g3⟩ := h
  refine ⟨g0, by rw [rd_putS (by omega)]; exact g1, by rw [rd_putS (by omega)]; exact g2, fun i hi => ?_⟩
  by_cases e : i = k
  · subst e
    simp only [if_true]
    exact ⟨isSt_putS (by omega), hS⟩
  · simp only [if_neg e]
    obtain ⟨a, hn⟩ := g3 i hi
    exact ⟨isSt_off (by unfold off; omega) a, hn⟩

theorem s52 {nat : gNat} {d : Nat} {w : gWd} {x n b : Nat} {hd od : Int} {T : Nat → Lay} {S : Lay} (hx : isSh w x n hd od T) (hn : 0 < n ∧ n < 100) (ho : 0 ≤ od ∧ od < n) (hh : 0 ≤ hd ∧ hd ≤ n) (hb : isSt w b S) (hS : nS S) (hbx : b + 3 < x ∨ x + 2 + 4 * n ≤ b)  : ∃ w', gC nat (d + 3) 52 [.ref x, .ref b] w = some (none, w') ∧ isSh w' x n (if hd < n then hd + 1 else hd) (if hd < n then od else (od + 1) % n) (fun i => if i = (if hd < n then ((od + hd) % n).toNat else (((od + 1) % n + (hd - 1)) % n).toNat) then S else T i) ∧ (∀ q, (q < x ∨ x + 2 + 4 * n ≤ q) → rd w' q = rd w q) ∧ w'.2 = w.2 := by
  obtain ⟨h0, h1, h2, h3⟩ := id hx
  have a1 : x + 1 < gSTR := by omega
  by_cases hlt : hd < n
  · simp only [if_pos hlt]
    have b1 := Int.emod_nonneg (od + hd) (show (n : Int) ≠ 0 by omega)
    have b2 := Int.emod_lt_of_pos (od + hd) (show (0 : Int) < n by omega)
    have hk : ((od + hd) % n).toNat < n := by omega
    have c1 := s54 (nat := nat) (d := d) hx hn (by omega) (i := hd) (by omega)
    have c2 := s58w (nat := nat) (d := d) (h3 _ hk).1 hb (by omega) (h3 _ hk).2 hS
    have hp := isSh_put hx hk hS
    have e1 : rd (putS w (x + 2 + 4 * ((od + hd) % n).toNat) S) x = oC 6 [.int (J hd), .int (J od), .ref (x + 1)] := hp.2.1
    refine ⟨wr (putS w (x + 2 + 4 * ((od + hd) % n).toNat) S) x (oC 6 [.int (J (hd + 1)), .int (J od), .ref (x + 1)]), ?_, isSh_head hp rd_wr_same (fun q hq => rd_wr_ne hq), fun q hq => ?_, rfl⟩
    · rw [en52]
      simp (disch := first | omega | exact Nat.le_of_ble_eq_true rfl) only [e52_0, e52_1, e52_4, e52_5, e52_8, e52_9, e52_12, e52_13, e52_14, e52_15, e52_18, e52_21, e52_22, e52_22i, e52_23, e52_26, e52_27, e52_28, e52_31, e52_32, e52_33, e52_36, e52_39, e52_40, e52_41, e52_41n, e52_44, e52_45, e52_46, e52_49, e52_50, e52_50i, e52_51, e52_54, e52_55, e52_56, e52_59, J_add, J_sub, J_mul, J_neg, J_lt, J_le, J_eq, gArr_J, gAst_J, gSiz_J, gFld_o, gUpd_o0, gUpd_o1, gUpd_o2, gUpd_o3, gUpd_o4, gUpd_o5, gUpd_o6, gUpd_o7, gUpd_o8, gUpd_o9, gUpd_o10, gUpd_o11, gUpd_o12, gUpd_o13, gUpd_o14, gUpd_o15, gUpd_o16, gUpd_o17, gUpd_o18, gIsO_o, Option.bind_some, List.getElem?_cons_zero, List.getElem?_cons_succ, List.length_cons, List.length_nil, List.set_cons_zero, List.set_cons_succ, gCat_nil, gCat_int, gCat_ref, if_pos, if_neg, Option.toList_some, Option.toList_none, List.cons_append, List.nil_append, B_nar, J1_nar, J0_nar, if_true, if_false, rd_wr_same, rd_wr_ne, true_and, and_true, B_0, B_1, not_true_eq_false, not_false_eq_true, h1, h2, gSiz_q, c1, c2, e1, (h3 _ hk).1.2.1]
    · rw [rd_wr_ne (by omega), rd_putS (by omega)]
  · simp only [if_neg hlt]
    have o1 := Int.emod_nonneg (od + 1) (show (n : Int) ≠ 0 by omega)
    have o2 := Int.emod_lt_of_pos (od + 1) (show (0 : Int) < n by omega)
    have b1 := Int.emod_nonneg ((od + 1) % n + (hd - 1)) (show (n : Int) ≠ 0 by omega)
    have b2 := Int.emod_lt_of_pos ((od + 1) % n + (hd - 1)) (show (0 : Int) < n by omega)
    have hk : (((od + 1) % n + (hd - 1)) % n).toNat < n := by omega
    have c0 := s55 (nat := nat) (d := d + 1) hx hn (by omega) (i := 1) (by omega)
    have hx2 : isSh (wr (wr w x (oC 6 [.int (J hd), .int (J ((od + 1) % n)), .ref (x + 1)])) x (oC 6 [.int (J (hd - 1)), .int (J ((od + 1) % n)), .ref (x + 1)])) x n (hd - 1) ((od + 1) % n) T := isSh_head hx rd_wr_same (fun q hq => by rw [rd_wr_ne hq, rd_wr_ne hq])
    have hb2 := isSt_wr (c := oC 6 [.int (J (hd - 1)), .int (J ((od + 1) % n)), .ref (x + 1)]) (a := x) (isSt_wr (c := oC 6 [.int (J hd), .int (J ((od + 1) % n)), .ref (x + 1)]) (a := x) hb (by omega)) (by omega)
    have c1 := s54 (nat := nat) (d := d) hx2 hn (by omega) (i := hd - 1) (by omega)
    have c2 := s58w (nat := nat) (d := d) (hx2.2.2.2 _ hk).1 hb2 (by omega) (hx2.2.2.2 _ hk).2 hS
    have hp := isSh_put hx2 hk hS
    have e1 := hp.2.1
    refine ⟨wr (putS (wr (wr w x (oC 6 [.int (J hd), .int (J ((od + 1) % n)), .ref (x + 1)])) x (oC 6 [.int (J (hd - 1)), .int (J ((od + 1) % n)), .ref (x + 1)])) (x + 2 + 4 * (((od + 1) % n + (hd - 1)) % n).toNat) S) x (oC 6 [.int (J hd), .int (J ((od + 1) % n)), .ref (x + 1)]), ?_, isSh_head hp rd_wr_same (fun q hq => rd_wr_ne hq), fun q hq => ?_, rfl⟩
    · rw [en52]
      simp (disch := first | omega | exact Nat.le_of_ble_eq_true rfl) only [e52_0, e52_1, e52_4, e52_5, e52_8, e52_9, e52_12, e52_13, e52_14, e52_15, e52_18, e52_21, e52_22, e52_22i, e52_23, e52_26, e52_27, e52_28, e52_31, e52_32, e52_33, e52_36, e52_39, e52_40, e52_41, e52_41n, e52_44, e52_45, e52_46, e52_49, e52_50, e52_50i, e52_51, e52_54, e52_55, e52_56, e52_59, J_add, J_sub, J_mul, J_neg, J_lt, J_le, J_eq, gArr_J, gAst_J, gSiz_J, gFld_o, gUpd_o0, gUpd_o1, gUpd_o2, gUpd_o3, gUpd_o4, gUpd_o5, gUpd_o6, gUpd_o7, gUpd_o8, gUpd_o9, gUpd_o10, gUpd_o11, gUpd_o12, gUpd_o13, gUpd_o14, gUpd_o15, gUpd_o16, gUpd_o17, gUpd_o18, gIsO_o, Option.bind_some, List.getElem?_cons_zero, List.getElem?_cons_succ, List.length_cons, List.length_nil, List.set_cons_zero, List.set_cons_succ, gCat_nil, gCat_int, gCat_ref, if_pos, if_neg, Option.toList_some, Option.toList_none, List.cons_append, List.nil_append, B_nar, J1_nar, J0_nar, if_true, if_false, rd_wr_same, rd_wr_ne, true_and, and_true, B_0, B_1, not_true_eq_false, not_false_eq_true, h1, h2, gSiz_q, c0, c1, c2, e1, (h3 _ hk).1.2.1, Int.sub_add_cancel]
    · rw [rd_wr_ne (by omega), rd_putS (by omega), rd_wr_ne (by omega), rd_wr_ne (by omega)]

theorem s53 {nat : gNat} {d : Nat} {w : gWd} {x n b : Nat} {hd od : Int} {T : Nat → Lay} {S : Lay} (hx : isSh w x n hd od T) (hn : 0 < n ∧ n < 100) (ho : 0 ≤ od ∧ od < n) (hh : 0 ≤ hd ∧ hd ≤ n) (hb : isSt w b S) (hS : nS S) (hbx : b + 3 < x ∨ x + 2 + 4 * n ≤ b) (h1 : 1 ≤ hd) : ∃ w', gC nat (d + 3) 53 [.ref x, .ref b] w = some (none, w') ∧ isSh w' x n (hd - 1) od T ∧ isSt w' b (T ((od + (hd - 1)) % n).toNat) ∧ (∀ q, (q < x ∨ x + 2 + 4 * n ≤ q) → (q < b ∨ b + 3 < q) → rd w' q = rd w q) ∧ w'.2 = w.2 := by
  obtain ⟨h0, g1, h2, h3⟩ := id hx
  have a1 : x + 1 < gSTR := by omega
  have b1 := Int.emod_nonneg (od + (hd - 1)) (show (n : Int) ≠ 0 by omega)
  have b2 := Int.emod_lt_of_pos (od + (hd - 1)) (show (0 : Int) < n by omega)
  have hk : ((od + (hd - 1)) % n).toNat < n := by omega
  have hx2 : isSh (wr w x (oC 6 [.int (J (hd - 1)), .int (J od), .ref (x + 1)])) x n (hd - 1) od T := isSh_head hx rd_wr_same (fun q hq => rd_wr_ne hq)
  have hb2 := isSt_wr (c := oC 6 [.int (J (hd - 1)), .int (J od), .ref (x + 1)]) (a := x) hb (by omega)
  have c1 := s54 (nat := nat) (d := d) hx2 hn (by omega) (i := hd - 1) (by omega)
  have c2 := s58w (nat := nat) (d := d) hb2 (hx2.2.2.2 _ hk).1 (by omega) hS (hx2.2.2.2 _ hk).2
  refine ⟨putS (wr w x (oC 6 [.int (J (hd - 1)), .int (J od), .ref (x + 1)])) b (T ((od + (hd - 1)) % n).toNat), ?_, ?_, isSt_putS hb.1, fun q h1 h2 => ?_, rfl⟩
  · rw [en53]
    simp (disch := first | omega | exact Nat.le_of_ble_eq_true rfl) only [e53_0, e53_1, e53_4, e53_5, e53_8, e53_9, e53_10, e53_10i, e53_11, e53_14, e53_15, e53_16, e53_19, e53_20, e53_21, e53_24, e53_27, e53_28, e53_29, e53_29n, e53_32, e53_33, e53_34, e53_37, J_add, J_sub, J_mul, J_neg, J_lt, J_le, J_eq, gArr_J, gAst_J, gSiz_J, gFld_o, gUpd_o0, gUpd_o1, gUpd_o2, gUpd_o3, gUpd_o4, gUpd_o5, gUpd_o6, gUpd_o7, gUpd_o8, gUpd_o9, gUpd_o10, gUpd_o11, gUpd_o12, gUpd_o13, gUpd_o14, gUpd_o15, gUpd_o16, gUpd_o17, gUpd_o18, gIsO_o, Option.bind_some, List.getElem?_cons_zero, List.getElem?_cons_succ, List.length_cons, List.length_nil, List.set_cons_zero, List.set_cons_succ, gCat_nil, gCat_int, gCat_ref, if_pos, if_neg, Option.toList_some, Option.toList_none, List.cons_append, List.nil_append, B_nar, J1_nar, J0_nar, if_true, if_false, rd_wr_same, rd_wr_ne, true_and, and_true, B_0, B_1, not_true_eq_false, not_false_eq_true, g1, h2, gSiz_q, c1, c2, hb.2.1]
  · obtain ⟨q0, q1, q2, q3⟩ := hx2
    have := hb.1
    refine ⟨q0, by rw [rd_putS (by omega)]; exact q1, by rw [rd_putS (by omega)]; exact q2, fun i hi => ⟨isSt_off (by unfold off; omega) (q3 i hi).1, (q3 i hi).2⟩⟩
  · rw [rd_putS (by omega), rd_wr_ne (by omega)]
