theorem gAsq_J {N : Nat} {f : Nat → Option Nat} {c : List Value} {i : Nat} {b : Nat} (h : i < N) (hN : N < 1000) : gAsq (rC N f) (oC 7 c) (J i) b = some (rC N (va_up f i (some b))) := by
  have e := J_clamp (a := (i : Int)) (by omega)
  rw [Int.toNat_natCast] at e
  show (if J i < 0 ∨ N ≤ (J i).toNatClampNeg then none else some (rC N (va_up f (J i).toNatClampNeg (some b)))) = _
  rw [e, if_neg (by rw [← J_zero, J_lt (by omega) (by omega)]; omega)]
def prtR (x : Nat) (i : Nat) : Nat → Option Nat := fun k => if k < i then some (x + 4 * k) else none
theorem part_up (x i : Nat) : va_up (prtR x i) i (some (x + 4 * i)) = prtR x (i + 1) := by
  funext k
  unfold va_up prtR
  by_cases h : k = i
  · subst h
    rw [if_pos rfl, if_pos (by omega)]
  · rw [if_neg h]
    by_cases h2 : k < i
    · rw [if_pos h2, if_pos (by omega)]
    · rw [if_neg h2, if_neg (by omega)]

theorem l50 {nat : gNat} {d : Nat} {x : Nat} {N : Nat} (hN : N < 1000) (hm : x + 2 + 4 * N < gSTR) : ∀ (k i : Nat) (w : gWd), i + k = N → rd w x = oC 6 [.int (J 0), .int (J 0), .ref (x + 1)] → rd w (x + 1) = rC N (prtR (x + 2) i) → w.2.1 = x + 2 + 4 * i → (∀ t, t < i → isSt w (x + 2 + 4 * t) zL) → ∃ w', gX (gC nat (d + 1)) nat 50 28 [some (.ref x), some (.int (J N)), some (.int (J i))] [] [] w = some (none, w') ∧ rd w' x = oC 6 [.int (J 0), .int (J 0), .ref (x + 1)] ∧ rd w' (x + 1) = rC N (prtR (x + 2) N) ∧ (∀ t, t < N → isSt w' (x + 2 + 4 * t) zL) ∧ (∀ q, q < x + 2 + 4 * i → q ≠ x + 1 → rd w' q = rd w q) ∧ w'.2 = (x + 2 + 4 * N, w.2.2 + 20 * k) := by
  intro k
  induction k with
  | zero =>
    intro i w hi h0 h1 hn hS
    rw [Nat.add_zero] at hi
    subst hi
    refine ⟨w, ?_, h0, h1, hS, fun _ _ _ => rfl, by rw [Nat.mul_zero, ← hn]; rfl⟩
    rw [e50_28]
    simp (disch := first | omega | exact Nat.le_of_ble_eq_true rfl) only [e50_0, e50_1, e50_4, e50_5, e50_6, e50_9, e50_10, e50_11, e50_14, e50_15, e50_16, e50_17, e50_20, e50_23, e50_26, e50_27, e50_29, e50_30, e50_33, e50_34, e50_37, e50_38, e50_41, e50_42, e50_45, e50_45i, e50_46, e50_49, e50_50, e50_53, e50_56, J_add, J_sub, J_mul, J_neg, J_lt, J_le, J_eq, gArr_J, gAst_J, gSiz_J, gFld_o, gUpd_o0, gUpd_o1, gUpd_o2, gUpd_o3, gUpd_o4, gUpd_o5, gUpd_o6, gUpd_o7, gUpd_o8, gUpd_o9, gUpd_o10, gUpd_o11, gUpd_o12, gUpd_o13, gUpd_o14, gUpd_o15, gUpd_o16, gUpd_o17, gUpd_o18, gIsO_o, Option.bind_some, List.getElem?_cons_zero, List.getElem?_cons_succ, List.length_cons, List.length_nil, List.set_cons_zero, List.set_cons_succ, gCat_nil, gCat_int, gCat_ref, if_pos, if_neg, Option.toList_some, Option.toList_none, List.cons_append, List.nil_append, B_nar, J1_nar, J0_nar, if_true, if_false, rd_wr_same, rd_wr_ne, true_and, and_true, B_0, B_1, not_true_eq_false, not_false_eq_true, h0, h1, gSiz_q]
  | succ k ih =>
    intro i w hi h0 h1 hn hS
    have a1 : rd (al w (oC 7 [.int 0, .null, .null, .null]) 4) (x + 2 + 4 * i) = oC 7 [.int 0, .null, .null, .null] := rd_al_n hn.symm
    obtain ⟨V, g1, g2, g3, g4⟩ := c56 (nat := nat) (d := d) (w := al w (oC 7 [.int 0, .null, .null, .null]) 4) (m := x + 2 + 4 * i) a1 (by rw [al_n, hn]) (by omega)
    have F1 : ∀ q, q < x + 2 + 4 * i → rd V q = rd w q := fun q hq => (g3 q hq).trans (rd_al_o (by omega))
    have v0 : rd V x = _ := (F1 x (by omega)).trans h0
    have v1 : rd V (x + 1) = _ := (F1 _ (by omega)).trans h1
    have q1 := gAsq_J (N := N) (f := prtR (x + 2) i) (c := [.int (J (zL 0 0)), .ref (x + 2 + 4 * i + 1), .ref (x + 2 + 4 * i + 2), .ref (x + 2 + 4 * i + 3)]) (i := i) (b := x + 2 + 4 * i) (by omega) hN
    rw [part_up] at q1
    obtain ⟨w', k1, k2, k3, k4, k5, k6⟩ := ih (i + 1) (wr V (x + 1) (rC N (prtR (x + 2) (i + 1)))) (by omega) (by rw [rd_wr_ne (by omega)]; exact v0) rd_wr_same (by rw [wr_n, g4]; show x + 2 + 4 * i + 1 + 3 = _; omega) (fun t ht => by
      by_cases e : t = i
      · subst e
        exact isSt_fr g2 (fun z z1 z2 => rd_wr_ne (by omega))
      · exact isSt_fr (hS t (by omega)) (fun z z1 z2 => (rd_wr_ne (by omega)).trans (F1 z (by omega))))
    refine ⟨w', ?_, k2, k3, k4, fun q q1 q2 => by rw [k5 q (by omega) q2, rd_wr_ne q2, F1 q q1], ?_⟩
    · rw [← k1, e50_28, show ((i + 1 : Nat) : Int) = (i : Int) + 1 from rfl]
      simp (disch := first | omega | exact Nat.le_of_ble_eq_true rfl) only [e50_0, e50_1, e50_4, e50_5, e50_6, e50_9, e50_10, e50_11, e50_14, e50_15, e50_16, e50_17, e50_20, e50_23, e50_26, e50_27, e50_29, e50_30, e50_33, e50_34, e50_37, e50_38, e50_41, e50_42, e50_45, e50_45i, e50_46, e50_49, e50_50, e50_53, e50_56, J_add, J_sub, J_mul, J_neg, J_lt, J_le, J_eq, gArr_J, gAst_J, gSiz_J, gFld_o, gUpd_o0, gUpd_o1, gUpd_o2, gUpd_o3, gUpd_o4, gUpd_o5, gUpd_o6, gUpd_o7, gUpd_o8, gUpd_o9, gUpd_o10, gUpd_o11, gUpd_o12, gUpd_o13, gUpd_o14, gUpd_o15, gUpd_o16, gUpd_o17, gUpd_o18, gIsO_o, Option.bind_some, List.getElem?_cons_zero, List.getElem?_cons_succ, List.length_cons, List.length_nil, List.set_cons_zero, List.set_cons_succ, gCat_nil, gCat_int, gCat_ref, if_pos, if_neg, Option.toList_some, Option.toList_none, List.cons_append, List.nil_append, B_nar, J1_nar, J0_nar, if_true, if_false, rd_wr_same, rd_wr_ne, true_and, and_true, B_0, B_1, not_true_eq_false, not_false_eq_true, h0, h1, gSiz_q, hn, g1, v0, v1, g2.2.1, q1]
    · rw [k6, wr_k, g4, al_k]
      show (_, w.2.2 + 4 + 16 + 20 * k) = _
      refine Prod.ext rfl ?_
      show w.2.2 + 4 + 16 + 20 * k = w.2.2 + 20 * (k + 1)
      omega

theorem l35 {nat : gNat} {d : Nat} {x : Nat} {N : Nat} (hN : N < 1000) (hm : x + 4 + 4 * N < gSTR) : ∀ (k i : Nat) (w : gWd), i + k = N → rd w x = oC 4 [.int (J 0), .int (J 0), .ref (x + 1), .ref (x + 2), .ref (x + 3), .int (J 0), .int (J 0)] → rd w (x + 3) = rC N (prtR (x + 4) i) → w.2.1 = x + 4 + 4 * i → (∀ t, t < i → isSt w (x + 4 + 4 * t) zL) → ∃ w', gX (gC nat (d + 1)) nat 35 48 [some (.ref x), some (.int (J i))] [] [] w = some (none, w') ∧ rd w' x = oC 4 [.int (J 0), .int (J 0), .ref (x + 1), .ref (x + 2), .ref (x + 3), .int (J 0), .int (J 0)] ∧ rd w' (x + 3) = rC N (prtR (x + 4) N) ∧ (∀ t, t < N → isSt w' (x + 4 + 4 * t) zL) ∧ (∀ q, q < x + 4 + 4 * i → q ≠ x + 3 → rd w' q = rd w q) ∧ w'.2 = (x + 4 + 4 * N, w.2.2 + 20 * k) := by
  intro k
  induction k with
  | zero =>
    intro i w hi h0 h1 hn hS
    rw [Nat.add_zero] at hi
    subst hi
    refine ⟨w, ?_, h0, h1, hS, fun _ _ _ => rfl, by rw [Nat.mul_zero, ← hn]; rfl⟩
    rw [e35_48]
    simp (disch := first | omega | exact Nat.le_of_ble_eq_true rfl) only [e35_0, e35_1, e35_4, e35_5, e35_6, e35_9, e35_10, e35_11, e35_14, e35_15, e35_16, e35_18, e35_21, e35_22, e35_23, e35_25, e35_28, e35_29, e35_30, e35_33, e35_36, e35_37, e35_38, e35_41, e35_42, e35_43, e35_46, e35_47, e35_49, e35_50, e35_53, e35_54, e35_57, e35_58, e35_61, e35_62, e35_65, e35_65i, e35_66, e35_69, e35_70, e35_73, e35_76, J_add, J_sub, J_mul, J_neg, J_lt, J_le, J_eq, gArr_J, gAst_J, gSiz_J, gFld_o, gUpd_o0, gUpd_o1, gUpd_o2, gUpd_o3, gUpd_o4, gUpd_o5, gUpd_o6, gUpd_o7, gUpd_o8, gUpd_o9, gUpd_o10, gUpd_o11, gUpd_o12, gUpd_o13, gUpd_o14, gUpd_o15, gUpd_o16, gUpd_o17, gUpd_o18, gIsO_o, Option.bind_some, List.getElem?_cons_zero, List.getElem?_cons_succ, List.length_cons, List.length_nil, List.set_cons_zero, List.set_cons_succ, gCat_nil, gCat_int, gCat_ref, if_pos, if_neg, Option.toList_some, Option.toList_none, List.cons_append, List.nil_append, B_nar, J1_nar, J0_nar, if_true, if_false, rd_wr_same, rd_wr_ne, true_and, and_true, B_0, B_1, not_true_eq_false, not_false_eq_true, h0, h1, gSiz_q]
  | succ k ih =>
    intro i w hi h0 h1 hn hS
    have a1 : rd (al w (oC 7 [.int 0, .null, .null, .null]) 4) (x + 4 + 4 * i) = oC 7 [.int 0, .null, .null, .null] := rd_al_n hn.symm
    obtain ⟨V, g1, g2, g3, g4⟩ := c56 (nat := nat) (d := d) (w := al w (oC 7 [.int 0, .null, .null, .null]) 4) (m := x + 4 + 4 * i) a1 (by rw [al_n, hn]) (by omega)
    have F1 : ∀ q, q < x + 4 + 4 * i → rd V q = rd w q := fun q hq => (g3 q hq).trans (rd_al_o (by omega))
    have v0 : rd V x = _ := (F1 x (by omega)).trans h0
    have v1 : rd V (x + 3) = _ := (F1 _ (by omega)).trans h1
    have q1 := gAsq_J (N := N) (f := prtR (x + 4) i) (c := [.int (J (zL 0 0)), .ref (x + 4 + 4 * i + 1), .ref (x + 4 + 4 * i + 2), .ref (x + 4 + 4 * i + 3)]) (i := i) (b := x + 4 + 4 * i) (by omega) hN
    rw [part_up] at q1
    obtain ⟨w', k1, k2, k3, k4, k5, k6⟩ := ih (i + 1) (wr V (x + 3) (rC N (prtR (x + 4) (i + 1)))) (by omega) (by rw [rd_wr_ne (by omega)]; exact v0) rd_wr_same (by rw [wr_n, g4]; show x + 4 + 4 * i + 1 + 3 = _; omega) (fun t ht => by
      by_cases e : t = i
      · subst e
        exact isSt_fr g2 (fun z z1 z2 => rd_wr_ne (by omega))
      · exact isSt_fr (hS t (by omega)) (fun z z1 z2 => (rd_wr_ne (by omega)).trans (F1 z (by omega))))
    refine ⟨w', ?_, k2, k3, k4, fun q q1 q2 => by rw [k5 q (by omega) q2, rd_wr_ne q2, F1 q q1], ?_⟩
    · rw [← k1, e35_48, show ((i + 1 : Nat) : Int) = (i : Int) + 1 from rfl]
      simp (disch := first | omega | exact Nat.le_of_ble_eq_true rfl) only [e35_0, e35_1, e35_4, e35_5, e35_6, e35_9, e35_10, e35_11, e35_14, e35_15, e35_16, e35_18, e35_21, e35_22, e35_23, e35_25, e35_28, e35_29, e35_30, e35_33, e35_36, e35_37, e35_38, e35_41, e35_42, e35_43, e35_46, e35_47, e35_49, e35_50, e35_53, e35_54, e35_57, e35_58, e35_61, e35_62, e35_65, e35_65i, e35_66, e35_69, e35_70, e35_73, e35_76, J_add, J_sub, J_mul, J_neg, J_lt, J_le, J_eq, gArr_J, gAst_J, gSiz_J, gFld_o, gUpd_o0, gUpd_o1, gUpd_o2, gUpd_o3, gUpd_o4, gUpd_o5, gUpd_o6, gUpd_o7, gUpd_o8, gUpd_o9, gUpd_o10, gUpd_o11, gUpd_o12, gUpd_o13, gUpd_o14, gUpd_o15, gUpd_o16, gUpd_o17, gUpd_o18, gIsO_o, Option.bind_some, List.getElem?_cons_zero, List.getElem?_cons_succ, List.length_cons, List.length_nil, List.set_cons_zero, List.set_cons_succ, gCat_nil, gCat_int, gCat_ref, if_pos, if_neg, Option.toList_some, Option.toList_none, List.cons_append, List.nil_append, B_nar, J1_nar, J0_nar, if_true, if_false, rd_wr_same, rd_wr_ne, true_and, and_true, B_0, B_1, not_true_eq_false, not_false_eq_true, h0, h1, gSiz_q, hn, g1, v0, v1, g2.2.1, q1]
    · rw [k6, wr_k, g4, al_k]
      show (_, w.2.2 + 4 + 16 + 20 * k) = _
      refine Prod.ext rfl ?_
      show w.2.2 + 4 + 16 + 20 * k = w.2.2 + 20 * (k + 1)
      omega

theorem c50_8 {nat : gNat} {d : Nat} {w : gWd} {x : Nat} (h : rd w x = oC 6 [.int 0, .int 0, .null]) (hn : w.2.1 = x + 1) (hm : x + 2 + 4 * 8 < gSTR) : ∃ w', gC nat (d + 2) 50 [.ref x, .int (J 8)] w = some (none, w') ∧ isSh w' x 8 0 0 (fun _ => zL) ∧ (∀ q, q < x → rd w' q = rd w q) ∧ w'.2 = (x + 2 + 4 * 8, w.2.2 + 168) := by
  have e0 : rd (wr (wr w x (oC 6 [.int (J 0), .int 0, .null])) x (oC 6 [.int (J 0), .int (J 0), .null])) x = oC 6 [.int (J 0), .int (J 0), .null] := rd_wr_same
  have z : (prtR (x + 1 + 1) 0) = fun _ => none := by
    funext k
    exact if_neg (by omega)
  obtain ⟨w', k1, k2, k3, k4, k5, k6⟩ := l50 (nat := nat) (d := d) (x := x) (N := 8) (by omega) (by omega) 8 0 (wr (al (wr (wr w x (oC 6 [.int (J 0), .int 0, .null])) x (oC 6 [.int (J 0), .int (J 0), .null])) (rC 8 (fun _ => none)) 8) x (oC 6 [.int (J 0), .int (J 0), .ref (x + 1)])) rfl rd_wr_same (by rw [rd_wr_ne (by omega), rd_al_n (by rw [wr_n, wr_n, hn]), ← z]) (by rw [wr_n, al_n, wr_n, wr_n, hn]) (fun t ht => absurd ht (by omega))
  refine ⟨w', ?_, ⟨by omega, k2, k3, fun i hi => ⟨k4 i hi, nS_z⟩⟩, fun q hq => by rw [k5 q (by omega) (by omega), rd_wr_ne (by omega), rd_al_o (by rw [wr_n, wr_n, hn]; omega), rd_wr_ne (by omega), rd_wr_ne (by omega)], ?_⟩
  · rw [← k1, en50, show ((0 : Nat) : Int) = 0 from rfl, show ((8 : Nat) : Int) = 8 from rfl]
    simp (disch := first | omega | (simp only [wr_n, al_n, hn]; done) | (simp only [wr_n, al_n, hn]; omega)) only [e50_0, e50_1, e50_4, e50_5, e50_6, e50_9, e50_10, e50_11, e50_14, e50_15, e50_16, e50_17, e50_20, e50_23, e50_26, e50_27, e50_29, e50_30, e50_33, e50_34, e50_37, e50_38, e50_41, e50_42, e50_45, e50_45i, e50_46, e50_49, e50_50, e50_53, e50_56, J_add, J_sub, J_mul, J_neg, J_lt, J_le, J_eq, gArr_J, gAst_J, gSiz_J, gFld_o, gUpd_o0, gUpd_o1, gUpd_o2, gUpd_o3, gUpd_o4, gUpd_o5, gUpd_o6, gUpd_o7, gUpd_o8, gUpd_o9, gUpd_o10, gUpd_o11, gUpd_o12, gUpd_o13, gUpd_o14, gUpd_o15, gUpd_o16, gUpd_o17, gUpd_o18, gIsO_o, Option.bind_some, List.getElem?_cons_zero, List.getElem?_cons_succ, List.length_cons, List.length_nil, List.set_cons_zero, List.set_cons_succ, gCat_nil, gCat_int, gCat_ref, if_pos, if_neg, Option.toList_some, Option.toList_none, List.cons_append, List.nil_append, B_nar, J1_nar, J0_nar, if_true, if_false, rd_wr_same, rd_wr_ne, true_and, and_true, B_0, B_1, not_true_eq_false, not_false_eq_true, h, hn, wr_n, al_n, rd_al_o, rd_al_n, cl3, nw3, cl4, nw4, cl5, nw5, cl8, nw8, cl12, nw12, cl40, nw40, cl64, nw64, cl200, nw200, cl2, nw2, cl17, nw17, cl65, nw65, cl136, nw136, cl34, nw34]
  · rw [k6, wr_k, al_k, wr_k, wr_k]

theorem c50_2 {nat : gNat} {d : Nat} {w : gWd} {x : Nat} (h : rd w x = oC 6 [.int 0, .int 0, .null]) (hn : w.2.1 = x + 1) (hm : x + 2 + 4 * 2 < gSTR) : ∃ w', gC nat (d + 2) 50 [.ref x, .int (J 2)] w = some (none, w') ∧ isSh w' x 2 0 0 (fun _ => zL) ∧ (∀ q, q < x → rd w' q = rd w q) ∧ w'.2 = (x + 2 + 4 * 2, w.2.2 + 42) := by
  have e0 : rd (wr (wr w x (oC 6 [.int (J 0), .int 0, .null])) x (oC 6 [.int (J 0), .int (J 0), .null])) x = oC 6 [.int (J 0), .int (J 0), .null] := rd_wr_same
  have z : (prtR (x + 1 + 1) 0) = fun _ => none := by
    funext k
    exact if_neg (by omega)
  obtain ⟨w', k1, k2, k3, k4, k5, k6⟩ := l50 (nat := nat) (d := d) (x := x) (N := 2) (by omega) (by omega) 2 0 (wr (al (wr (wr w x (oC 6 [.int (J 0), .int 0, .null])) x (oC 6 [.int (J 0), .int (J 0), .null])) (rC 2 (fun _ => none)) 2) x (oC 6 [.int (J 0), .int (J 0), .ref (x + 1)])) rfl rd_wr_same (by rw [rd_wr_ne (by omega), rd_al_n (by rw [wr_n, wr_n, hn]), ← z]) (by rw [wr_n, al_n, wr_n, wr_n, hn]) (fun t ht => absurd ht (by omega))
  refine ⟨w', ?_, ⟨by omega, k2, k3, fun i hi => ⟨k4 i hi, nS_z⟩⟩, fun q hq => by rw [k5 q (by omega) (by omega), rd_wr_ne (by omega), rd_al_o (by rw [wr_n, wr_n, hn]; omega), rd_wr_ne (by omega), rd_wr_ne (by omega)], ?_⟩
  · rw [← k1, en50, show ((0 : Nat) : Int) = 0 from rfl, show ((2 : Nat) : Int) = 2 from rfl]
    simp (disch := first | omega | (simp only [wr_n, al_n, hn]; done) | (simp only [wr_n, al_n, hn]; omega)) only [e50_0, e50_1, e50_4, e50_5, e50_6, e50_9, e50_10, e50_11, e50_14, e50_15, e50_16, e50_17, e50_20, e50_23, e50_26, e50_27, e50_29, e50_30, e50_33, e50_34, e50_37, e50_38, e50_41, e50_42, e50_45, e50_45i, e50_46, e50_49, e50_50, e50_53, e50_56, J_add, J_sub, J_mul, J_neg, J_lt, J_le, J_eq, gArr_J, gAst_J, gSiz_J, gFld_o, gUpd_o0, gUpd_o1, gUpd_o2, gUpd_o3, gUpd_o4, gUpd_o5, gUpd_o6, gUpd_o7, gUpd_o8, gUpd_o9, gUpd_o10, gUpd_o11, gUpd_o12, gUpd_o13, gUpd_o14, gUpd_o15, gUpd_o16, gUpd_o17, gUpd_o18, gIsO_o, Option.bind_some, List.getElem?_cons_zero, List.getElem?_cons_succ, List.length_cons, List.length_nil, List.set_cons_zero, List.set_cons_succ, gCat_nil, gCat_int, gCat_ref, if_pos, if_neg, Option.toList_some, Option.toList_none, List.cons_append, List.nil_append, B_nar, J1_nar, J0_nar, if_true, if_false, rd_wr_same, rd_wr_ne, true_and, and_true, B_0, B_1, not_true_eq_false, not_false_eq_true, h, hn, wr_n, al_n, rd_al_o, rd_al_n, cl3, nw3, cl4, nw4, cl5, nw5, cl8, nw8, cl12, nw12, cl40, nw40, cl64, nw64, cl200, nw200, cl2, nw2, cl17, nw17, cl65, nw65, cl136, nw136, cl34, nw34]
  · rw [k6, wr_k, al_k, wr_k, wr_k]

theorem c35 {nat : gNat} {d : Nat} {w : gWd} {x : Nat} (h : rd w x = oC 4 [.int 0, .int 0, .null, .null, .null, .int 0, .int 0]) (hn : w.2.1 = x + 1) (hm : x + 4 + 4 * 4 < gSTR) : ∃ w', gC nat (d + 2) 35 [.ref x] w = some (none, w') ∧ isRo w' x (0, 0, fun _ => 0) 0 0 (fun _ => 0) (fun _ => zL) ∧ (∀ q, q < x → rd w' q = rd w q) ∧ w'.2 = (x + 4 + 4 * 4, w.2.2 + 90) := by
  have z : (prtR (x + 3 + 1) 0) = fun _ => none := by
    funext k
    exact if_neg (by omega)
  have hrun : ∃ w1, gC nat (d + 2) 35 [.ref x] w = gX (gC nat (d + 1)) nat 35 48 [some (.ref x), some (.int (J 0))] [] [] w1 ∧ rd w1 x = oC 4 [.int (J 0), .int (J 0), .ref (x + 1), .ref (x + 2), .ref (x + 3), .int (J 0), .int (J 0)] ∧ rd w1 (x + 1) = iC 3 (eI (fun _ => 0)) ∧ rd w1 (x + 2) = iC 3 (eI (fun _ => 0)) ∧ rd w1 (x + 3) = rC 4 (prtR (x + 3 + 1) 0) ∧ w1.2.1 = x + 4 ∧ w1.2.2 = w.2.2 + 10 ∧ (∀ q, q < x → rd w1 q = rd w q) := by
    let W1 := wr (wr w x (oC 4 [.int (J 0), .int 0, .null, .null, .null, .int 0, .int 0])) x (oC 4 [.int (J 0), .int (J 0), .null, .null, .null, .int 0, .int 0])
    let W2 := wr (al W1 (iC 3 (fun _ => 0)) 3) x (oC 4 [.int (J 0), .int (J 0), .ref (x + 1), .null, .null, .int 0, .int 0])
    let W3 := wr (al W2 (iC 3 (fun _ => 0)) 3) x (oC 4 [.int (J 0), .int (J 0), .ref (x + 1), .ref (x + 1 + 1), .null, .int 0, .int 0])
    let W4 := wr (al W3 (rC 4 (fun _ => none)) 4) x (oC 4 [.int (J 0), .int (J 0), .ref (x + 1), .ref (x + 1 + 1), .ref (x + 1 + 1 + 1), .int 0, .int 0])
    let W5 := wr (wr W4 x (oC 4 [.int (J 0), .int (J 0), .ref (x + 1), .ref (x + 1 + 1), .ref (x + 1 + 1 + 1), .int (J 0), .int 0])) x (oC 4 [.int (J 0), .int (J 0), .ref (x + 1), .ref (x + 1 + 1), .ref (x + 1 + 1 + 1), .int (J 0), .int (J 0)])
    refine ⟨W5, ?_, rd_wr_same, ?_, ?_, ?_, ?_, rfl, fun q hq => ?_⟩
    · rw [en35]
      simp (disch := first | omega | (simp only [wr_n, al_n, hn]; done) | (simp only [wr_n, al_n, hn]; omega)) only [e35_0, e35_1, e35_4, e35_5, e35_6, e35_9, e35_10, e35_11, e35_14, e35_15, e35_16, e35_18, e35_21, e35_22, e35_23, e35_25, e35_28, e35_29, e35_30, e35_33, e35_36, e35_37, e35_38, e35_41, e35_42, e35_43, e35_46, e35_47, e35_49, e35_50, e35_53, e35_54, e35_57, e35_58, e35_61, e35_62, e35_65, e35_65i, e35_66, e35_69, e35_70, e35_73, e35_76, J_add, J_sub, J_mul, J_neg, J_lt, J_le, J_eq, gArr_J, gAst_J, gSiz_J, gFld_o, gUpd_o0, gUpd_o1, gUpd_o2, gUpd_o3, gUpd_o4, gUpd_o5, gUpd_o6, gUpd_o7, gUpd_o8, gUpd_o9, gUpd_o10, gUpd_o11, gUpd_o12, gUpd_o13, gUpd_o14, gUpd_o15, gUpd_o16, gUpd_o17, gUpd_o18, gIsO_o, Option.bind_some, List.getElem?_cons_zero, List.getElem?_cons_succ, List.length_cons, List.length_nil, List.set_cons_zero, List.set_cons_succ, gCat_nil, gCat_int, gCat_ref, if_pos, if_neg, Option.toList_some, Option.toList_none, List.cons_append, List.nil_append, B_nar, J1_nar, J0_nar, if_true, if_false, rd_wr_same, rd_wr_ne, true_and, and_true, B_0, B_1, not_true_eq_false, not_false_eq_true, h, hn, wr_n, al_n, rd_al_o, rd_al_n, cl3, nw3, cl4, nw4, cl5, nw5, cl8, nw8, cl12, nw12, cl40, nw40, cl64, nw64, cl200, nw200, cl2, nw2, cl17, nw17, cl65, nw65, cl136, nw136, cl34, nw34]
      rfl
    · rw [← eI_zero]
      simp (disch := first | omega | (simp only [wr_n, al_n, hn]; done) | (simp only [wr_n, al_n, hn]; omega)) only [W5, W4, W3, W2, W1, rd_wr_same, rd_wr_ne, rd_al_o, rd_al_n]
    · rw [← eI_zero]
      simp (disch := first | omega | (simp only [wr_n, al_n, hn]; done) | (simp only [wr_n, al_n, hn]; omega)) only [W5, W4, W3, W2, W1, rd_wr_same, rd_wr_ne, rd_al_o, rd_al_n]
    · rw [z]
      simp (disch := first | omega | (simp only [wr_n, al_n, hn]; done) | (simp only [wr_n, al_n, hn]; omega)) only [W5, W4, W3, W2, W1, rd_wr_same, rd_wr_ne, rd_al_o, rd_al_n]
    · show w.2.1 + 1 + 1 + 1 = _
      omega
    · simp (disch := first | omega | (simp only [wr_n, al_n, hn]; done) | (simp only [wr_n, al_n, hn]; omega)) only [W5, W4, W3, W2, W1, rd_wr_ne, rd_al_o]
  obtain ⟨w1, h1, h2, h3, h4, h5, h6, h7, h8⟩ := hrun
  obtain ⟨w', k1, k2, k3, k4, k5, k6⟩ := l35 (nat := nat) (d := d) (x := x) (N := 4) (by omega) (by omega) 4 0 w1 rfl h2 h5 h6 (fun t ht => absurd ht (by omega))
  refine ⟨w', ?_, ⟨by omega, k2, ?_, ?_, k3, fun i hi => ⟨k4 i hi, nS_z⟩⟩, fun q hq => by rw [k5 q (by omega) (by omega), h8 q hq], ?_⟩
  · rw [← k1, h1]
    rfl
  · rw [k5 _ (by omega) (by omega)]
    exact h3
  · rw [k5 _ (by omega) (by omega)]
    exact h4
  · rw [k6, h7]
