theorem cE_put {w : gWd} {hd : Int} {A1 A2 A3 : Int → Int} (h : cE w hd A1 A2 A3) : ∃ st lo bp bq A4, w = putE w 64 hd st lo bp bq A1 A2 A3 A4 ∧ (∀ i : Int, 64 ≤ i → A4 i = 0) := by
  obtain ⟨st, lo, bp, bq, A4, h0, h1, h2, h3, h4, h5⟩ := h
  exact ⟨st, lo, bp, bq, A4, putE_rd rfl h0 h1 h2 h3 h4 (fun _ _ => rfl), h5⟩
theorem cE_of {w : gWd} {hd st lo bp bq : Int} {A1 A2 A3 A4 : Int → Int} (h : ∀ i : Int, 64 ≤ i → A4 i = 0) : cE (putE w 64 hd st lo bp bq A1 A2 A3 A4) hd A1 A2 A3 := ⟨st, lo, bp, bq, A4, rdE0, rdE1, rdE2, rdE3, rdE4, h⟩
theorem cR_put {w : gWd} (h : cR w) : ∃ am on N, w = putR w 2 am on N := by
  obtain ⟨am, on, N, h0, h1⟩ := h
  exact ⟨am, on, N, putR_rd rfl h0 h1 (fun _ _ => rfl)⟩
theorem cR_of {w : gWd} {am on : Int} {N : Int → Int} : cR (putR w 2 am on N) := ⟨am, on, N, rdR0, rdR1⟩
def wrX (X : Lay) (l : Int) : Lay := if (32 ≤ l ∧ l ≤ 126) ∧ X 0 0 < 200 then sset (sset X 1 (X 0 0) l) 0 0 (X 0 0 + 1) else X
def aWri (X : Lay) (l : Int) : Int := if 32 ≤ l ∧ l ≤ 126 then (if X 0 0 < 200 then X 0 0 + 1 else -3) else -1

theorem x76 {nat : gNat} {d : Nat} {w : gWd} {p q : Nat} {X K S : Lay} {PT KT : Nat → Lay} (hX : isX w p q X K S PT KT) (hK : vK K) (hS : vS K S) (hH : 0 ≤ S 0 0 ∧ S 0 0 < 1000000) (hL : 0 ≤ X 0 0 ∧ X 0 0 ≤ 200) {l : Int} (h_l : -2147483648 ≤ l ∧ l < 2147483648)  : ∃ w', gC nat (d + 25) 76 [.ref 0, .int (J l)] w = some (some (.int (J (aWri X l))), w') ∧ isX w' p q (wrX X l) K S PT KT ∧ (∀ z, 96 ≤ z → rd w' z = rd w z) ∧ w'.2 = w.2 := by
  rw [en76]
  obtain ⟨i0, iT, iR, iK, iQ, iS, inS, iTr, iP, iKp, iE, iH, iW, iD, hpq⟩ := id hX
  unfold aWri wrX
  by_cases h1 : 32 ≤ l ∧ l ≤ 126
  · by_cases h2 : X 0 0 < 200
    · rw [if_pos h1, if_pos h2, if_pos ⟨h1, h2⟩]
      have c1 := s118 (nat := nat) (d := d + 23) (w := w) (a := 1) (n := 200) (f := X 1) (i := X 0 0) (v := l) iT (by have := gSTR_big; omega) (by omega) (by omega)
      have r1 : rd (wr w 1 (iC 200 (eI (fset (X 1) (X 0 0) l)))) 0 = _ := (rd_wr_ne (by omega)).trans i0
      have F : ∀ z, (z ≠ 0 ∧ z ≠ 1) → rd (wr (wr w 1 (iC 200 (eI (fset (X 1) (X 0 0) l)))) 0 (oC 8 [.ref 1, .int (J (X 0 0 + 1)), .ref 2, .ref p, .ref q, .ref 12, .ref 16, .ref 20, .ref 54, .ref 64, .ref 69, .ref 71, .ref 91])) z = rd w z := fun z hz => by rw [rd_wr_ne hz.1, rd_wr_ne hz.2]
      refine ⟨(wr (wr w 1 (iC 200 (eI (fset (X 1) (X 0 0) l)))) 0 (oC 8 [.ref 1, .int (J (X 0 0 + 1)), .ref 2, .ref p, .ref q, .ref 12, .ref 16, .ref 20, .ref 54, .ref 64, .ref 69, .ref 71, .ref 91])), ?_, ⟨rd_wr_same, (by rw [rd_wr_ne (by omega), rd_wr_same, sset_row (by decide), sset_fset]), (cR_fr iR (fun z z1 z2 => F z (by omega))), (isMe_fr iK (fun z z1 z2 => F z (by omega))), (cQ_fr iQ (fun z z1 z2 => F z (by omega))), (isSt_fr iS (fun z z1 z2 => F z (by omega))), inS, (cTr_fr iTr (fun z z1 z2 => F z (by omega))), (isSh_fr iP (fun z z1 z2 => F z (by omega))), (isSh_fr iKp (fun z z1 z2 => F z (by omega))), (cE_fr iE (fun z z1 z2 => F z (by omega))), (cH_fr iH (fun z z1 z2 => F z (by omega))), (cW_fr iW (fun z z1 z2 => F z (by omega))), (cD_fr iD (fun z z1 z2 => F z (by omega))), hpq⟩, fun z hz => F z (by omega), rfl⟩
      simp (disch := first | omega | exact Nat.le_of_ble_eq_true rfl) only [e76_0, e76_1, e76_3, e76_6, e76_7, e76_9, e76_12, e76_13, e76_14, e76_15, e76_18, e76_21, e76_24, e76_26, e76_27, e76_28, e76_31, e76_32, e76_35, e76_36, e76_39, e76_40, e76_40i, e76_41, e76_44, e76_45, e76_46, e76_49, e76_50, e76_53, J_add, J_sub, J_mul, J_neg, J_lt, J_le, J_eq, gArr_J, gAst_J, gSiz_J, gFld_o, gUpd_o0, gUpd_o1, gUpd_o2, gUpd_o3, gUpd_o4, gUpd_o5, gUpd_o6, gUpd_o7, gUpd_o8, gUpd_o9, gUpd_o10, gUpd_o11, gUpd_o12, gUpd_o13, gUpd_o14, gUpd_o15, gUpd_o16, gUpd_o17, gUpd_o18, gIsO_o, Option.bind_some, List.getElem?_cons_zero, List.getElem?_cons_succ, List.length_cons, List.length_nil, List.set_cons_zero, List.set_cons_succ, gCat_nil, gCat_int, gCat_ref, if_pos, if_neg, Option.toList_some, Option.toList_none, List.cons_append, List.nil_append, B_nar, J1_nar, J0_nar, if_true, if_false, rd_wr_same, rd_wr_ne, true_and, and_true, B_0, B_1, not_true_eq_false, not_false_eq_true, i0, c1, r1]
    · rw [if_pos h1, if_neg h2, if_neg (fun z => h2 z.2)]
      refine ⟨w, ?_, hX, fun _ _ => rfl, rfl⟩
      simp (disch := first | omega | exact Nat.le_of_ble_eq_true rfl) only [e76_0, e76_1, e76_3, e76_6, e76_7, e76_9, e76_12, e76_13, e76_14, e76_15, e76_18, e76_21, e76_24, e76_26, e76_27, e76_28, e76_31, e76_32, e76_35, e76_36, e76_39, e76_40, e76_40i, e76_41, e76_44, e76_45, e76_46, e76_49, e76_50, e76_53, J_add, J_sub, J_mul, J_neg, J_lt, J_le, J_eq, gArr_J, gAst_J, gSiz_J, gFld_o, gUpd_o0, gUpd_o1, gUpd_o2, gUpd_o3, gUpd_o4, gUpd_o5, gUpd_o6, gUpd_o7, gUpd_o8, gUpd_o9, gUpd_o10, gUpd_o11, gUpd_o12, gUpd_o13, gUpd_o14, gUpd_o15, gUpd_o16, gUpd_o17, gUpd_o18, gIsO_o, Option.bind_some, List.getElem?_cons_zero, List.getElem?_cons_succ, List.length_cons, List.length_nil, List.set_cons_zero, List.set_cons_succ, gCat_nil, gCat_int, gCat_ref, if_pos, if_neg, Option.toList_some, Option.toList_none, List.cons_append, List.nil_append, B_nar, J1_nar, J0_nar, if_true, if_false, rd_wr_same, rd_wr_ne, true_and, and_true, B_0, B_1, not_true_eq_false, not_false_eq_true, i0]
  · rw [if_neg h1, if_neg (fun z => h1 z.1)]
    refine ⟨w, ?_, hX, fun _ _ => rfl, rfl⟩
    by_cases h3 : l < 32
    · simp (disch := first | omega | exact Nat.le_of_ble_eq_true rfl) only [e76_0, e76_1, e76_3, e76_6, e76_7, e76_9, e76_12, e76_13, e76_14, e76_15, e76_18, e76_21, e76_24, e76_26, e76_27, e76_28, e76_31, e76_32, e76_35, e76_36, e76_39, e76_40, e76_40i, e76_41, e76_44, e76_45, e76_46, e76_49, e76_50, e76_53, J_add, J_sub, J_mul, J_neg, J_lt, J_le, J_eq, gArr_J, gAst_J, gSiz_J, gFld_o, gUpd_o0, gUpd_o1, gUpd_o2, gUpd_o3, gUpd_o4, gUpd_o5, gUpd_o6, gUpd_o7, gUpd_o8, gUpd_o9, gUpd_o10, gUpd_o11, gUpd_o12, gUpd_o13, gUpd_o14, gUpd_o15, gUpd_o16, gUpd_o17, gUpd_o18, gIsO_o, Option.bind_some, List.getElem?_cons_zero, List.getElem?_cons_succ, List.length_cons, List.length_nil, List.set_cons_zero, List.set_cons_succ, gCat_nil, gCat_int, gCat_ref, if_pos, if_neg, Option.toList_some, Option.toList_none, List.cons_append, List.nil_append, B_nar, J1_nar, J0_nar, if_true, if_false, rd_wr_same, rd_wr_ne, true_and, and_true, B_0, B_1, not_true_eq_false, not_false_eq_true, i0]
    · simp (disch := first | omega | exact Nat.le_of_ble_eq_true rfl) only [e76_0, e76_1, e76_3, e76_6, e76_7, e76_9, e76_12, e76_13, e76_14, e76_15, e76_18, e76_21, e76_24, e76_26, e76_27, e76_28, e76_31, e76_32, e76_35, e76_36, e76_39, e76_40, e76_40i, e76_41, e76_44, e76_45, e76_46, e76_49, e76_50, e76_53, J_add, J_sub, J_mul, J_neg, J_lt, J_le, J_eq, gArr_J, gAst_J, gSiz_J, gFld_o, gUpd_o0, gUpd_o1, gUpd_o2, gUpd_o3, gUpd_o4, gUpd_o5, gUpd_o6, gUpd_o7, gUpd_o8, gUpd_o9, gUpd_o10, gUpd_o11, gUpd_o12, gUpd_o13, gUpd_o14, gUpd_o15, gUpd_o16, gUpd_o17, gUpd_o18, gIsO_o, Option.bind_some, List.getElem?_cons_zero, List.getElem?_cons_succ, List.length_cons, List.length_nil, List.set_cons_zero, List.set_cons_succ, gCat_nil, gCat_int, gCat_ref, if_pos, if_neg, Option.toList_some, Option.toList_none, List.cons_append, List.nil_append, B_nar, J1_nar, J0_nar, if_true, if_false, rd_wr_same, rd_wr_ne, true_and, and_true, B_0, B_1, not_true_eq_false, not_false_eq_true, i0]

theorem x77 {nat : gNat} {d : Nat} {w : gWd} {p q : Nat} {X K S : Lay} {PT KT : Nat → Lay} (hX : isX w p q X K S PT KT) (hK : vK K) (hS : vS K S) (hH : 0 ≤ S 0 0 ∧ S 0 0 < 1000000)  : ∃ w', gC nat (d + 25) 77 [.ref 0] w = some (some (.int (J (X 0 0))), w') ∧ isX w' p q (sset X 0 0 0) K S PT KT ∧ (∀ z, 96 ≤ z → rd w' z = rd w z) ∧ w'.2 = w.2 := by
  rw [en77]
  obtain ⟨i0, iT, iR, iK, iQ, iS, inS, iTr, iP, iKp, iE, iH, iW, iD, hpq⟩ := id hX
  have F : ∀ z, z ≠ 0 → rd (wr w 0 (oC 8 [.ref 1, .int (J 0), .ref 2, .ref p, .ref q, .ref 12, .ref 16, .ref 20, .ref 54, .ref 64, .ref 69, .ref 71, .ref 91])) z = rd w z := fun z hz => rd_wr_ne hz
  refine ⟨(wr w 0 (oC 8 [.ref 1, .int (J 0), .ref 2, .ref p, .ref q, .ref 12, .ref 16, .ref 20, .ref 54, .ref 64, .ref 69, .ref 71, .ref 91])), ?_, ⟨rd_wr_same, (by rw [F 1 (by omega)]; exact iT), (cR_fr iR (fun z z1 z2 => F z (by omega))), (isMe_fr iK (fun z z1 z2 => F z (by omega))), (cQ_fr iQ (fun z z1 z2 => F z (by omega))), (isSt_fr iS (fun z z1 z2 => F z (by omega))), inS, (cTr_fr iTr (fun z z1 z2 => F z (by omega))), (isSh_fr iP (fun z z1 z2 => F z (by omega))), (isSh_fr iKp (fun z z1 z2 => F z (by omega))), (cE_fr iE (fun z z1 z2 => F z (by omega))), (cH_fr iH (fun z z1 z2 => F z (by omega))), (cW_fr iW (fun z z1 z2 => F z (by omega))), (cD_fr iD (fun z z1 z2 => F z (by omega))), hpq⟩, fun z hz => F z (by omega), rfl⟩
  simp (disch := first | omega | exact Nat.le_of_ble_eq_true rfl) only [e77_0, e77_1, e77_4, e77_5, e77_6, e77_7, e77_10, e77_11, J_add, J_sub, J_mul, J_neg, J_lt, J_le, J_eq, gArr_J, gAst_J, gSiz_J, gFld_o, gUpd_o0, gUpd_o1, gUpd_o2, gUpd_o3, gUpd_o4, gUpd_o5, gUpd_o6, gUpd_o7, gUpd_o8, gUpd_o9, gUpd_o10, gUpd_o11, gUpd_o12, gUpd_o13, gUpd_o14, gUpd_o15, gUpd_o16, gUpd_o17, gUpd_o18, gIsO_o, Option.bind_some, List.getElem?_cons_zero, List.getElem?_cons_succ, List.length_cons, List.length_nil, List.set_cons_zero, List.set_cons_succ, gCat_nil, gCat_int, gCat_ref, if_pos, if_neg, Option.toList_some, Option.toList_none, List.cons_append, List.nil_append, B_nar, J1_nar, J0_nar, if_true, if_false, rd_wr_same, rd_wr_ne, true_and, and_true, B_0, B_1, not_true_eq_false, not_false_eq_true, i0]

abbrev txt (X : Lay) : Int → Int := ltr (X 1) (X 0 0)
abbrev rdX (X Q : Lay) : Int × Lay := rdl (txt X) (X 0 0) (X 0 0).toNat 0 1 (clrK Q)
theorem s26x {nat : gNat} {d : Nat} {w : gWd} {p q : Nat} {X K S : Lay} {PT KT : Nat → Lay} (hX : isX w p q X K S PT KT) (hL : 0 ≤ X 0 0 ∧ X 0 0 ≤ 200) (hT : ∀ i, 0 ≤ i → i < 200 → 0 ≤ X 1 i ∧ X 1 i < 128) {Q : Lay} (hQ : isMe w q Q) : ∃ w', gC nat (d + 5) 26 [.ref 2, .ref 1, .int (J (X 0 0)), .ref q] w = some (some (.int (J (rdX X Q).1)), w') ∧ isX w' p q X K S PT KT ∧ isMe w' q (rdX X Q).2 ∧ rd w' 0 = rd w 0 ∧ (∀ z, 96 ≤ z → rd w' z = rd w z) ∧ w'.2 = w.2 := by
  obtain ⟨i0, iT, iR, iK, iQ, iS, inS, iTr, iP, iKp, iE, iH, iW, iD, hpq⟩ := id hX
  have hb := gSTR_big
  obtain ⟨am, on, N, eR⟩ := cR_put iR
  have hq := putK_self hQ
  obtain ⟨am', on', N', g1⟩ := s26 (nat := nat) (d := d) (w := w) (x := 2) (t := 1) (m := q) (T := X 1) (L := X 0 0) (by omega) (by omega) (by omega) hQ.1 (by omega) (by omega) iT hT hL (am := am) (on := on) (N := N) (K := Q)
  rw [hq, ← eR] at g1
  have F : ∀ z, ((z < 2 ∨ 3 < z) ∧ (z < q ∨ q + 3 < z)) → rd (putR (putK w q (rdX X Q).2) 2 am' on' N') z = rd w z := fun z hz => by rw [rdRn (by omega), rdKn (by omega)]
  have iQ' : isMe (putR (putK w q (rdX X Q).2) 2 am' on' N') q (rdX X Q).2 := isMe_fr (isMe_putK hQ.1) (fun z z1 z2 => rdRn (by omega))
  exact ⟨putR (putK w q (rdX X Q).2) 2 am' on' N', g1, ⟨(by rw [F 0 (by omega)]; exact i0), (by rw [F 1 (by omega)]; exact iT), cR_of, (isMe_fr iK (fun z z1 z2 => F z (by omega))), ⟨_, iQ'⟩, (isSt_fr iS (fun z z1 z2 => F z (by omega))), inS, (cTr_fr iTr (fun z z1 z2 => F z (by omega))), (isSh_fr iP (fun z z1 z2 => F z (by omega))), (isSh_fr iKp (fun z z1 z2 => F z (by omega))), (cE_fr iE (fun z z1 z2 => F z (by omega))), (cH_fr iH (fun z z1 z2 => F z (by omega))), (cW_fr iW (fun z z1 z2 => F z (by omega))), (cD_fr iD (fun z z1 z2 => F z (by omega))), hpq⟩, iQ', F 0 (by omega), fun z hz => F z (by omega), rfl⟩

theorem x78 {nat : gNat} {d : Nat} {w : gWd} {p q : Nat} {X K S : Lay} {PT KT : Nat → Lay} (hX : isX w p q X K S PT KT) (hK : vK K) (hS : vS K S) (hH : 0 ≤ S 0 0 ∧ S 0 0 < 1000000) (hL : 0 ≤ X 0 0 ∧ X 0 0 ≤ 200) (hT : ∀ i, 0 ≤ i → i < 200 → 0 ≤ X 1 i ∧ X 1 i < 128) {Q : Lay} (hQ : isMe w q Q) : ∃ w', gC nat (d + 25) 78 [.ref 0] w = some (some (.int (J ((rdX X Q).1))), w') ∧ isX w' p q X K S PT KT ∧ isMe w' q (rdX X Q).2 ∧ (∀ z, 96 ≤ z → rd w' z = rd w z) ∧ w'.2 = w.2 := by
  obtain ⟨w', g1, g2, g3, g4, g5⟩ := s26x (nat := nat) (d := d + 19) hX hL hT hQ
  obtain ⟨i0, iT, iR, iK, iQ, iS, inS, iTr, iP, iKp, iE, iH, iW, iD, hpq⟩ := id hX
  obtain ⟨am, on, N, r2, -⟩ := iR
  refine ⟨w', ?_, g2, g3, g5⟩
  rw [en78]
  simp (disch := first | omega | exact Nat.le_of_ble_eq_true rfl) only [e78_0, e78_1, e78_4, e78_5, e78_8, e78_9, e78_12, e78_13, e78_16, e78_19, J_add, J_sub, J_mul, J_neg, J_lt, J_le, J_eq, gArr_J, gAst_J, gSiz_J, gFld_o, gUpd_o0, gUpd_o1, gUpd_o2, gUpd_o3, gUpd_o4, gUpd_o5, gUpd_o6, gUpd_o7, gUpd_o8, gUpd_o9, gUpd_o10, gUpd_o11, gUpd_o12, gUpd_o13, gUpd_o14, gUpd_o15, gUpd_o16, gUpd_o17, gUpd_o18, gIsO_o, Option.bind_some, List.getElem?_cons_zero, List.getElem?_cons_succ, List.length_cons, List.length_nil, List.set_cons_zero, List.set_cons_succ, gCat_nil, gCat_int, gCat_ref, if_pos, if_neg, Option.toList_some, Option.toList_none, List.cons_append, List.nil_append, B_nar, J1_nar, J0_nar, if_true, if_false, rd_wr_same, rd_wr_ne, true_and, and_true, B_0, B_1, not_true_eq_false, not_false_eq_true, i0, r2, g1]

def begS (K : Lay) : Lay := (fun b x => if b = 2 ∧ 0 ≤ x ∧ x < 4 then -4 else if b = 3 ∧ 0 ≤ x ∧ x < 4 then K 2 (3 * x + 1) else 0)
theorem nS_beg (K : Lay) : nS (begS K) := by
  refine ⟨fun x hx => ?_, fun x hx => ?_, fun x hx => ?_⟩
  · unfold begS
    rw [if_neg (by omega), if_neg (by omega)]
  · unfold begS
    rw [if_neg (by omega), if_neg (by omega)]
  · unfold begS
    rw [if_neg (by omega), if_neg (by omega)]
theorem vS_beg {K : Lay} (hK : vK K) : vS K (begS K) := by
  obtain ⟨k0, k1, k2, k3, k4, kg, kd, kr⟩ := hK
  refine ⟨by simp [begS], fun g g1 g2 => ?_, fun y y1 y2 => Or.inl ?_, fun y y1 y2 => ?_⟩
  · have := (kg g g1 g2).2.2.2.2.2
    rw [show begS K 1 g = 0 from by simp [begS]]
    omega
  · unfold begS
    rw [if_pos ⟨rfl, y1, y2⟩]
  · unfold begS
    rw [if_neg (by omega), if_pos (by omega)]
    exact (kd y y1 y2).2.1

theorem s104 {nat : gNat} {d : Nat} {w : gWd} {p q : Nat} {X K S : Lay} {PT KT : Nat → Lay} (hX : isX w p q X K S PT KT) (hK : vK K)  : ∃ w', gC nat (d + 3) 104 [.ref 0] w = some (none, w') ∧ isX w' p q (sset (sset (sset X 0 1 0) 0 3 0) 0 4 0) K (begS K) PT KT ∧ rd w' 0 = rd w 0 ∧ (∀ z, 96 ≤ z → rd w' z = rd w z) ∧ w'.2 = w.2 := by
  obtain ⟨i0, iT, iR, iK, iQ, iS, inS, iTr, iP, iKp, iE, iH, iW, iD, hpq⟩ := id hX
  have hb := gSTR_big
  have c1 := s57 (nat := nat) (d := d) (w := w) (a := 12) (m := p) (S := S) iK (by omega) iS.1 inS
  rw [putS_self iS] at c1
  have iP1 := isSh_fr (w' := putS w 12 (begS K)) iP (fun z z1 z2 => rd_putS (by omega))
  have c2 := s51 (nat := nat) (d := d + 1) iP1
  have iP2 := isSh_head (hd' := 0) (od' := X 0 2) iP1 (w' := wr (putS w 12 (begS K)) 20 (oC 6 [.int (J 0), .int (J (X 0 2)), .ref (20 + 1)])) rd_wr_same (fun z hz => rd_wr_ne hz)
  have iKp1 := isSh_fr (w' := wr (putS w 12 (begS K)) 20 (oC 6 [.int (J 0), .int (J (X 0 2)), .ref (20 + 1)])) iKp (fun z z1 z2 => by rw [rd_wr_ne (by omega), rd_putS (by omega)])
  have c3 := s51 (nat := nat) (d := d + 1) iKp1
  have iKp2 := isSh_head (hd' := 0) (od' := 0) iKp1 (w' := wr (wr (putS w 12 (begS K)) 20 (oC 6 [.int (J 0), .int (J (X 0 2)), .ref (20 + 1)])) 54 (oC 6 [.int (J 0), .int (J 0), .ref (54 + 1)])) rd_wr_same (fun z hz => rd_wr_ne hz)
  have iE1 := cE_fr (w' := wr (wr (putS w 12 (begS K)) 20 (oC 6 [.int (J 0), .int (J (X 0 2)), .ref (20 + 1)])) 54 (oC 6 [.int (J 0), .int (J 0), .ref (54 + 1)])) iE (fun z z1 z2 => by rw [rd_wr_ne (by omega), rd_wr_ne (by omega), rd_putS (by omega)])
  obtain ⟨st, lo, bp, bq, A4, eE, hA4⟩ := cE_put iE1
  have c4 := s42 (nat := nat) (d := d + 1) (w := wr (wr (putS w 12 (begS K)) 20 (oC 6 [.int (J 0), .int (J (X 0 2)), .ref (20 + 1)])) 54 (oC 6 [.int (J 0), .int (J 0), .ref (54 + 1)])) (x := 64) (hd := X 0 4) (st := st) (lo := lo) (bp := bp) (bq := bq) (A1 := X 2) (A2 := X 3) (A3 := X 4) (A4 := A4) (by omega)
  rw [← eE] at c4
  have F : ∀ z, ((z < 12 ∨ 15 < z) ∧ z ≠ 20 ∧ z ≠ 54 ∧ (z < 64 ∨ 68 < z)) → rd (putE (wr (wr (putS w 12 (begS K)) 20 (oC 6 [.int (J 0), .int (J (X 0 2)), .ref (20 + 1)])) 54 (oC 6 [.int (J 0), .int (J 0), .ref (54 + 1)])) 64 0 st lo bp bq (X 2) (X 3) (X 4) A4) z = rd w z := fun z hz => by rw [rdEn (by omega), rd_wr_ne (by omega), rd_wr_ne (by omega), rd_putS (by omega)]
  refine ⟨_, ?_, ⟨(by rw [F 0 (by omega)]; exact i0), (by rw [F 1 (by omega)]; exact iT), (cR_fr iR (fun z z1 z2 => F z (by omega))), (isMe_fr iK (fun z z1 z2 => F z (by omega))), (cQ_fr iQ (fun z z1 z2 => F z (by omega))), (isSt_fr (isSt_putS iS.1) (fun z z1 z2 => by rw [rdEn (by omega), rd_wr_ne (by omega), rd_wr_ne (by omega)])), (nS_beg K), (cTr_fr iTr (fun z z1 z2 => F z (by omega))), (isSh_fr iP2 (fun z z1 z2 => by rw [rdEn (by omega), rd_wr_ne (by omega)])), (isSh_fr iKp2 (fun z z1 z2 => by rw [rdEn (by omega)])), (cE_of hA4), (cH_fr iH (fun z z1 z2 => F z (by omega))), (cW_fr iW (fun z z1 z2 => F z (by omega))), (cD_fr iD (fun z z1 z2 => F z (by omega))), hpq⟩, F 0 (by omega), fun z hz => F z (by omega), rfl⟩
  rw [en104]
  have f1 : rd (putS w 12 (begS K)) 0 = _ := (rd_putS (by omega)).trans i0
  have f2 : rd (putS w 12 (begS K)) 20 = _ := iP1.2.1
  have f3 : rd (wr (putS w 12 (begS K)) 20 (oC 6 [.int (J 0), .int (J (X 0 2)), .ref (20 + 1)])) 0 = _ := (rd_wr_ne (by omega)).trans f1
  have f4 := iKp1.2.1
  have f5 : rd (wr (wr (putS w 12 (begS K)) 20 (oC 6 [.int (J 0), .int (J (X 0 2)), .ref (20 + 1)])) 54 (oC 6 [.int (J 0), .int (J 0), .ref (54 + 1)])) 0 = _ := (rd_wr_ne (by omega)).trans f3
  have f6 : rd (wr (wr (putS w 12 (begS K)) 20 (oC 6 [.int (J 0), .int (J (X 0 2)), .ref (20 + 1)])) 54 (oC 6 [.int (J 0), .int (J 0), .ref (54 + 1)])) 64 = oC 5 [.int (J (X 0 4)), .int (J st), .int (J lo), .int (J bp), .int (J bq), .ref (64 + 1), .ref (64 + 2), .ref (64 + 3), .ref (64 + 4)] := by rw [eE]; exact rdE0
  have c1' : gC nat (d + 2) 57 [.ref 12, .ref p] w = some (none, putS w 12 (begS K)) := c1
  simp (disch := first | omega | exact Nat.le_of_ble_eq_true rfl) only [e104_0, e104_1, e104_4, e104_5, e104_8, e104_11, e104_12, e104_15, e104_18, e104_19, e104_22, e104_25, e104_26, e104_29, e104_32, J_add, J_sub, J_mul, J_neg, J_lt, J_le, J_eq, gArr_J, gAst_J, gSiz_J, gFld_o, gUpd_o0, gUpd_o1, gUpd_o2, gUpd_o3, gUpd_o4, gUpd_o5, gUpd_o6, gUpd_o7, gUpd_o8, gUpd_o9, gUpd_o10, gUpd_o11, gUpd_o12, gUpd_o13, gUpd_o14, gUpd_o15, gUpd_o16, gUpd_o17, gUpd_o18, gIsO_o, Option.bind_some, List.getElem?_cons_zero, List.getElem?_cons_succ, List.length_cons, List.length_nil, List.set_cons_zero, List.set_cons_succ, gCat_nil, gCat_int, gCat_ref, if_pos, if_neg, Option.toList_some, Option.toList_none, List.cons_append, List.nil_append, B_nar, J1_nar, J0_nar, if_true, if_false, rd_wr_same, rd_wr_ne, true_and, and_true, B_0, B_1, not_true_eq_false, not_false_eq_true, i0, iS.2.1, f1, f2, f3, f4, f5, f6, c1', c2, c3, c4]
