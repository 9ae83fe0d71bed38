theorem wgh_X (K : Lay) (A1 A2 A3 : Int → Int) (N : Nat) : ∀ (n : Nat) (i : Int), 0 ≤ (wgh K A1 A2 A3 N n).2.2 i ∧ (wgh K A1 A2 A3 N n).2.2 i ≤ (wgh K A1 A2 A3 N n).1 := by
  intro n
  induction n with
  | zero => intro i; exact ⟨Int.le_refl 0, Int.le_refl 0⟩
  | succ n ih =>
    intro i
    have := ih i
    rw [wgh]
    split
    · dsimp only
      unfold cpO
      split
      · omega
      · omega
    · exact this
theorem wgh_lo (K : Lay) (A1 A2 A3 : Int → Int) (N : Nat) : ∀ n : Nat, -4 ≤ (wgh K A1 A2 A3 N n).2.1 ∧ (wgh K A1 A2 A3 N n).2.1 ≤ n := by
  intro n
  induction n with
  | zero => exact ⟨Int.le_refl (-4), by show (-4 : Int) ≤ 0; decide⟩
  | succ n ih =>
    rw [wgh]
    split
    · dsimp only
      split
      · omega
      · omega
    · omega
def wgX (X K : Lay) : Int × Int × (Int → Int) := wgh K (X 2) (X 3) (X 4) (X 0 4).toNat (2 ^ (K 0 1).toNat)
def aSmd (X K : Lay) (u : Int) : Int := if 0 ≤ u ∧ u ≤ 1 then (if u = 0 then (wgX X K).1 else (wgX X K).2.1) else -1
def tel (X K : Lay) : Int × Int := if (wgX X K).1 < 1 then (-4, -4) else chO (X 2) (X 3) (wgX X K).2.2 (X 0 4).toNat (wgX X K).1 (K 0 0) (K 0 0).toNat 0 (-4, -4)
def aTel (X K : Lay) (u : Int) : Int := if 0 ≤ u ∧ u ≤ 1 then (if u = 0 then (tel X K).1 else (tel X K).2) else -1
theorem isX_eh {w : gWd} {p q : Nat} {X K S : Lay} {PT KT : Nat → Lay} (hX : isX w p q X K S PT KT) {st lo bp bq : Int} {A4 f : Int → Int} (h4 : ∀ i : Int, 64 ≤ i → A4 i = 0) (hf : ∀ x : Int, 8 ≤ x → f x = 0) : isX (putH (putE w 64 (X 0 4) st lo bp bq (X 2) (X 3) (X 4) A4) 69 f) p q X K S PT KT := by
  obtain ⟨i0, iT, iR, iK, iQ, iS, inS, iTr, iP, iKp, iE, iH, iW, iD, hpq⟩ := id hX
  have F : ∀ z, ((z < 64 ∨ 68 < z) ∧ z ≠ 70) → rd (putH (putE w 64 (X 0 4) st lo bp bq (X 2) (X 3) (X 4) A4) 69 f) z = rd w z := fun z hz => by rw [rdHn hz.2, rdEn (by omega)]
  exact ⟨(by rw [F 0 (by omega)]; exact i0), (by rw [F 1 (by omega)]; exact iT), (cR_fr iR (fun z z1 z2 => F z (by omega))), (isMe_fr iK (fun z z1 z2 => F z (by omega))), (cQ_fr iQ (fun z z1 z2 => F z (by omega))), (isSt_fr iS (fun z z1 z2 => F z (by omega))), inS, (cTr_fr iTr (fun z z1 z2 => F z (by omega))), (isSh_fr iP (fun z z1 z2 => F z (by omega))), (isSh_fr iKp (fun z z1 z2 => F z (by omega))), (cE_fr (cE_of h4) (fun z z1 z2 => rdHn (by omega))), ⟨⟨iH.1.1, by rw [F 69 (by omega)]; exact iH.1.2⟩, f, rdH1, hf⟩, (cW_fr iW (fun z z1 z2 => F z (by omega))), (cD_fr iD (fun z z1 z2 => F z (by omega))), hpq⟩
theorem s44x {nat : gNat} {d : Nat} {w : gWd} {p q : Nat} {X K S : Lay} {PT KT : Nat → Lay} (hX : isX w p q X K S PT KT) (hK : vK K) (hr : rX X) (hT : ∀ i : Int, 0 ≤ i → i < X 0 4 → (0 ≤ X 2 i ∧ X 2 i < 8) ∧ (0 ≤ X 3 i ∧ X 3 i < 8) ∧ (0 ≤ X 4 i ∧ X 4 i ≤ 1)) : ∃ bp bq, gC nat (d + 4) 44 [.ref 64, .ref p, .ref 69] w = some (none, putH (putE w 64 (X 0 4) (wgX X K).1 (wgX X K).2.1 bp bq (X 2) (X 3) (X 4) (wgX X K).2.2) 69 (lab K (2 ^ (K 0 1).toNat - 1) (K 0 1).toNat)) ∧ (∀ i : Int, 64 ≤ i → (wgX X K).2.2 i = 0) := by
  obtain ⟨i0, iT, iR, iK, iQ, iS, inS, iTr, iP, iKp, iE, iH, iW, iD, hpq⟩ := id hX
  obtain ⟨st, lo, bp, bq, A4, eE, hA4⟩ := cE_put iE
  obtain ⟨f, eH, hf⟩ := cH_put iH
  obtain ⟨r0, rT, r1, r2, r3, r4⟩ := hr
  have hb := gSTR_big
  have c := s44 (nat := nat) (d := d) (w := w) (x := 64) (h := 69) (m := p) (K := K) (hd := X 0 4) (st := st) (lo := lo) (bp := bp) (bq := bq) (A1 := X 2) (A2 := X 3) (A3 := X 4) (A4 := A4) (f := f) (by omega) iH.1 (by omega) iK hK (by omega) (by omega) (N := (X 0 4).toNat) (by omega) (by omega) (fun i i1 i2 => hT i i1 (by omega)) hA4 hf
  rw [← eE, ← eH] at c
  refine ⟨bp, bq, c, fun i hi => ?_⟩
  unfold wgX
  generalize 2 ^ (K 0 1).toNat = n
  induction n with
  | zero => rfl
  | succ n ih =>
    rw [wgh]
    split
    · dsimp only
      unfold cpO
      have := hK.1
      rw [if_neg (by omega)]
      exact ih
    · exact ih

theorem x97 {nat : gNat} {d : Nat} {w : gWd} {p q : Nat} {X K S : Lay} {PT KT : Nat → Lay} (hX : isX w p q X K S PT KT) (hK : vK K) (hS : vS K S) (hH : 0 ≤ S 0 0 ∧ S 0 0 < 1000000) (hr : rX X) (hT : ∀ i : Int, 0 ≤ i → i < X 0 4 → (0 ≤ X 2 i ∧ X 2 i < 8) ∧ (0 ≤ X 3 i ∧ X 3 i < 8) ∧ (0 ≤ X 4 i ∧ X 4 i ≤ 1)) {u : Int} (h_u : -2147483648 ≤ u ∧ u < 2147483648)  : ∃ w', gC nat (d + 25) 97 [.ref 0, .int (J u)] w = some (some (.int (J (aSmd X K u))), w') ∧ isX w' p q X K S PT KT ∧ (∀ z, 96 ≤ z → rd w' z = rd w z) ∧ w'.2 = w.2 := by
  rw [en97]
  obtain ⟨i0, iT, iR, iK, iQ, iS, inS, iTr, iP, iKp, iE, iH, iW, iD, hpq⟩ := id hX
  have c1 := s113 (nat := nat) (d := d + 23) (w := w) (x := u) (l := 0) (h := 1) (by omega) (by omega) (by omega)
  unfold aSmd
  by_cases h1 : 0 ≤ u ∧ u ≤ 1
  rotate_left
  · rw [B_neg h1] at c1
    rw [if_neg h1]
    refine ⟨w, ?_, hX, fun _ _ => rfl, rfl⟩
    simp (disch := first | omega | exact Nat.le_of_ble_eq_true rfl) only [e97_0, e97_1, e97_2, e97_3, e97_6, e97_9, e97_10, e97_11, e97_12, e97_15, e97_16, e97_19, e97_20, e97_23, e97_26, e97_27, e97_30, e97_31, e97_34, e97_37, e97_40, e97_41, e97_44, e97_47, J_add, J_sub, J_mul, J_neg, J_lt, J_le, J_eq, gArr_J, gAst_J, gSiz_J, gFld_o, gUpd_o0, gUpd_o1, gUpd_o2, gUpd_o3, gUpd_o4, gUpd_o5, gUpd_o6, gUpd_o7, gUpd_o8, gUpd_o9, gUpd_o10, gUpd_o11, gUpd_o12, gUpd_o13, gUpd_o14, gUpd_o15, gUpd_o16, gUpd_o17, gUpd_o18, gIsO_o, Option.bind_some, List.getElem?_cons_zero, List.getElem?_cons_succ, List.length_cons, List.length_nil, List.set_cons_zero, List.set_cons_succ, gCat_nil, gCat_int, gCat_ref, if_pos, if_neg, Option.toList_some, Option.toList_none, List.cons_append, List.nil_append, B_nar, J1_nar, J0_nar, if_true, if_false, rd_wr_same, rd_wr_ne, true_and, and_true, B_0, B_1, not_true_eq_false, not_false_eq_true, i0, c1]
  rw [B_pos h1] at c1
  rw [if_pos h1]
  obtain ⟨bp, bq, c2, hz⟩ := s44x (nat := nat) (d := d + 20) hX hK hr hT
  have f0 : rd (putH (putE w 64 (X 0 4) (wgX X K).1 (wgX X K).2.1 bp bq (X 2) (X 3) (X 4) (wgX X K).2.2) 69 (lab K (2 ^ (K 0 1).toNat - 1) (K 0 1).toNat)) 0 = _ := (rdHn (by omega)).trans ((rdEn (by omega)).trans i0)
  have f1 : rd (putH (putE w 64 (X 0 4) (wgX X K).1 (wgX X K).2.1 bp bq (X 2) (X 3) (X 4) (wgX X K).2.2) 69 (lab K (2 ^ (K 0 1).toNat - 1) (K 0 1).toNat)) 64 = _ := (rdHn (by omega)).trans rdE0
  obtain ⟨st, lo, bp', bq', A4, e0, -⟩ := iE
  have hx := isX_eh hX (st := (wgX X K).1) (lo := (wgX X K).2.1) (bp := bp) (bq := bq) hz (lab_far K (2 ^ (K 0 1).toNat - 1) (K 0 1).toNat)
  refine ⟨_, ?_, hx, fun z hz => (rdHn (by omega)).trans (rdEn (by omega)), rfl⟩
  by_cases h2 : u = 0
  · rw [if_pos h2]
    simp (disch := first | omega | exact Nat.le_of_ble_eq_true rfl) only [e97_0, e97_1, e97_2, e97_3, e97_6, e97_9, e97_10, e97_11, e97_12, e97_15, e97_16, e97_19, e97_20, e97_23, e97_26, e97_27, e97_30, e97_31, e97_34, e97_37, e97_40, e97_41, e97_44, e97_47, J_add, J_sub, J_mul, J_neg, J_lt, J_le, J_eq, gArr_J, gAst_J, gSiz_J, gFld_o, gUpd_o0, gUpd_o1, gUpd_o2, gUpd_o3, gUpd_o4, gUpd_o5, gUpd_o6, gUpd_o7, gUpd_o8, gUpd_o9, gUpd_o10, gUpd_o11, gUpd_o12, gUpd_o13, gUpd_o14, gUpd_o15, gUpd_o16, gUpd_o17, gUpd_o18, gIsO_o, Option.bind_some, List.getElem?_cons_zero, List.getElem?_cons_succ, List.length_cons, List.length_nil, List.set_cons_zero, List.set_cons_succ, gCat_nil, gCat_int, gCat_ref, if_pos, if_neg, Option.toList_some, Option.toList_none, List.cons_append, List.nil_append, B_nar, J1_nar, J0_nar, if_true, if_false, rd_wr_same, rd_wr_ne, true_and, and_true, B_0, B_1, not_true_eq_false, not_false_eq_true, i0, e0, c1, c2, f0, f1]
  · rw [if_neg h2]
    simp (disch := first | omega | exact Nat.le_of_ble_eq_true rfl) only [e97_0, e97_1, e97_2, e97_3, e97_6, e97_9, e97_10, e97_11, e97_12, e97_15, e97_16, e97_19, e97_20, e97_23, e97_26, e97_27, e97_30, e97_31, e97_34, e97_37, e97_40, e97_41, e97_44, e97_47, J_add, J_sub, J_mul, J_neg, J_lt, J_le, J_eq, gArr_J, gAst_J, gSiz_J, gFld_o, gUpd_o0, gUpd_o1, gUpd_o2, gUpd_o3, gUpd_o4, gUpd_o5, gUpd_o6, gUpd_o7, gUpd_o8, gUpd_o9, gUpd_o10, gUpd_o11, gUpd_o12, gUpd_o13, gUpd_o14, gUpd_o15, gUpd_o16, gUpd_o17, gUpd_o18, gIsO_o, Option.bind_some, List.getElem?_cons_zero, List.getElem?_cons_succ, List.length_cons, List.length_nil, List.set_cons_zero, List.set_cons_succ, gCat_nil, gCat_int, gCat_ref, if_pos, if_neg, Option.toList_some, Option.toList_none, List.cons_append, List.nil_append, B_nar, J1_nar, J0_nar, if_true, if_false, rd_wr_same, rd_wr_ne, true_and, and_true, B_0, B_1, not_true_eq_false, not_false_eq_true, i0, e0, c1, c2, f0, f1]

theorem x98 {nat : gNat} {d : Nat} {w : gWd} {p q : Nat} {X K S : Lay} {PT KT : Nat → Lay} (hX : isX w p q X K S PT KT) (hK : vK K) (hS : vS K S) (hH : 0 ≤ S 0 0 ∧ S 0 0 < 1000000) (hr : rX X) (hT : ∀ i : Int, 0 ≤ i → i < X 0 4 → (0 ≤ X 2 i ∧ X 2 i < 8) ∧ (0 ≤ X 3 i ∧ X 3 i < 8) ∧ (0 ≤ X 4 i ∧ X 4 i ≤ 1)) {u : Int} (h_u : -2147483648 ≤ u ∧ u < 2147483648)  : ∃ w', gC nat (d + 25) 98 [.ref 0, .int (J u)] w = some (some (.int (J (aTel X K u))), w') ∧ isX w' p q X K S PT KT ∧ (∀ z, 96 ≤ z → rd w' z = rd w z) ∧ w'.2 = w.2 := by
  rw [en98]
  obtain ⟨i0, iT, iR, iK, iQ, iS, inS, iTr, iP, iKp, iE, iH, iW, iD, hpq⟩ := id hX
  have c1 := s113 (nat := nat) (d := d + 23) (w := w) (x := u) (l := 0) (h := 1) (by omega) (by omega) (by omega)
  unfold aTel
  by_cases h1 : 0 ≤ u ∧ u ≤ 1
  rotate_left
  · rw [B_neg h1] at c1
    rw [if_neg h1]
    refine ⟨w, ?_, hX, fun _ _ => rfl, rfl⟩
    simp (disch := first | omega | exact Nat.le_of_ble_eq_true rfl) only [e98_0, e98_1, e98_2, e98_3, e98_6, e98_9, e98_10, e98_11, e98_12, e98_15, e98_16, e98_19, e98_20, e98_23, e98_26, e98_27, e98_30, e98_31, e98_34, e98_37, e98_38, e98_41, e98_42, e98_45, e98_48, e98_51, e98_52, e98_55, e98_58, J_add, J_sub, J_mul, J_neg, J_lt, J_le, J_eq, gArr_J, gAst_J, gSiz_J, gFld_o, gUpd_o0, gUpd_o1, gUpd_o2, gUpd_o3, gUpd_o4, gUpd_o5, gUpd_o6, gUpd_o7, gUpd_o8, gUpd_o9, gUpd_o10, gUpd_o11, gUpd_o12, gUpd_o13, gUpd_o14, gUpd_o15, gUpd_o16, gUpd_o17, gUpd_o18, gIsO_o, Option.bind_some, List.getElem?_cons_zero, List.getElem?_cons_succ, List.length_cons, List.length_nil, List.set_cons_zero, List.set_cons_succ, gCat_nil, gCat_int, gCat_ref, if_pos, if_neg, Option.toList_some, Option.toList_none, List.cons_append, List.nil_append, B_nar, J1_nar, J0_nar, if_true, if_false, rd_wr_same, rd_wr_ne, true_and, and_true, B_0, B_1, not_true_eq_false, not_false_eq_true, i0, c1]
  rw [B_pos h1] at c1
  rw [if_pos h1]
  obtain ⟨bp, bq, c2, hz⟩ := s44x (nat := nat) (d := d + 20) hX hK hr hT
  have f0 : rd (putH (putE w 64 (X 0 4) (wgX X K).1 (wgX X K).2.1 bp bq (X 2) (X 3) (X 4) (wgX X K).2.2) 69 (lab K (2 ^ (K 0 1).toNat - 1) (K 0 1).toNat)) 0 = _ := (rdHn (by omega)).trans ((rdEn (by omega)).trans i0)
  have f1 : rd (putH (putE w 64 (X 0 4) (wgX X K).1 (wgX X K).2.1 bp bq (X 2) (X 3) (X 4) (wgX X K).2.2) 69 (lab K (2 ^ (K 0 1).toNat - 1) (K 0 1).toNat)) 64 = _ := (rdHn (by omega)).trans rdE0
  obtain ⟨st, lo, bp', bq', A4, e0, -⟩ := iE
  have hb := gSTR_big
  have hw := wgh_in K (X 2) (X 3) (X 4) (X 0 4).toNat (2 ^ (K 0 1).toNat)
  have h256 := pow256 (G := (K 0 1).toNat) (by have := hK.2.1; omega)
  obtain ⟨r0, rT, r1, r2, r3, r4⟩ := id hr
  have c3 := s48 (nat := nat) (d := d + 21) (w := putH w 69 (lab K (2 ^ (K 0 1).toNat - 1) (K 0 1).toNat)) (x := 64) (m := p) (K := K) (hd := X 0 4) (st := (wgX X K).1) (lo := (wgX X K).2.1) (bp := bp) (bq := bq) (A1 := X 2) (A2 := X 3) (A3 := X 4) (A4 := (wgX X K).2.2) (by omega) (isMe_putH (by omega) iK) hK (by omega) (N := (X 0 4).toNat) (by omega) (by omega) (fun i i1 i2 => ⟨(hT i i1 (by omega)).1, (hT i i1 (by omega)).2.1⟩) (fun i => wgh_X K (X 2) (X 3) (X 4) (X 0 4).toNat _ i) ⟨hw.1, by have := hw.2; exact Int.le_trans this (by omega)⟩
  rw [← putEH (by omega), ← putEH (by omega)] at c3
  have hx := isX_eh hX (st := (wgX X K).1) (lo := (wgX X K).2.1) (bp := (tel X K).1) (bq := (tel X K).2) hz (lab_far K (2 ^ (K 0 1).toNat - 1) (K 0 1).toNat)
  have c3' : gC nat (d + 24) 48 [.ref 64, .ref p] (putH (putE w 64 (X 0 4) (wgX X K).1 (wgX X K).2.1 bp bq (X 2) (X 3) (X 4) (wgX X K).2.2) 69 (lab K (2 ^ (K 0 1).toNat - 1) (K 0 1).toNat)) = some (none, putH (putE w 64 (X 0 4) (wgX X K).1 (wgX X K).2.1 (tel X K).1 (tel X K).2 (X 2) (X 3) (X 4) (wgX X K).2.2) 69 (lab K (2 ^ (K 0 1).toNat - 1) (K 0 1).toNat)) := c3
  have f2 : rd (putH (putE w 64 (X 0 4) (wgX X K).1 (wgX X K).2.1 (tel X K).1 (tel X K).2 (X 2) (X 3) (X 4) (wgX X K).2.2) 69 (lab K (2 ^ (K 0 1).toNat - 1) (K 0 1).toNat)) 0 = _ := (rdHn (by omega)).trans ((rdEn (by omega)).trans i0)
  have f3 : rd (putH (putE w 64 (X 0 4) (wgX X K).1 (wgX X K).2.1 (tel X K).1 (tel X K).2 (X 2) (X 3) (X 4) (wgX X K).2.2) 69 (lab K (2 ^ (K 0 1).toNat - 1) (K 0 1).toNat)) 64 = _ := (rdHn (by omega)).trans rdE0
  refine ⟨_, ?_, hx, fun z hz => (rdHn (by omega)).trans (rdEn (by omega)), rfl⟩
  by_cases h2 : u = 0
  · rw [if_pos h2]
    simp (disch := first | omega | exact Nat.le_of_ble_eq_true rfl) only [e98_0, e98_1, e98_2, e98_3, e98_6, e98_9, e98_10, e98_11, e98_12, e98_15, e98_16, e98_19, e98_20, e98_23, e98_26, e98_27, e98_30, e98_31, e98_34, e98_37, e98_38, e98_41, e98_42, e98_45, e98_48, e98_51, e98_52, e98_55, e98_58, J_add, J_sub, J_mul, J_neg, J_lt, J_le, J_eq, gArr_J, gAst_J, gSiz_J, gFld_o, gUpd_o0, gUpd_o1, gUpd_o2, gUpd_o3, gUpd_o4, gUpd_o5, gUpd_o6, gUpd_o7, gUpd_o8, gUpd_o9, gUpd_o10, gUpd_o11, gUpd_o12, gUpd_o13, gUpd_o14, gUpd_o15, gUpd_o16, gUpd_o17, gUpd_o18, gIsO_o, Option.bind_some, List.getElem?_cons_zero, List.getElem?_cons_succ, List.length_cons, List.length_nil, List.set_cons_zero, List.set_cons_succ, gCat_nil, gCat_int, gCat_ref, if_pos, if_neg, Option.toList_some, Option.toList_none, List.cons_append, List.nil_append, B_nar, J1_nar, J0_nar, if_true, if_false, rd_wr_same, rd_wr_ne, true_and, and_true, B_0, B_1, not_true_eq_false, not_false_eq_true, i0, e0, c1, c2, c3', f0, f1, f2, f3]
  · rw [if_neg h2]
    simp (disch := first | omega | exact Nat.le_of_ble_eq_true rfl) only [e98_0, e98_1, e98_2, e98_3, e98_6, e98_9, e98_10, e98_11, e98_12, e98_15, e98_16, e98_19, e98_20, e98_23, e98_26, e98_27, e98_30, e98_31, e98_34, e98_37, e98_38, e98_41, e98_42, e98_45, e98_48, e98_51, e98_52, e98_55, e98_58, J_add, J_sub, J_mul, J_neg, J_lt, J_le, J_eq, gArr_J, gAst_J, gSiz_J, gFld_o, gUpd_o0, gUpd_o1, gUpd_o2, gUpd_o3, gUpd_o4, gUpd_o5, gUpd_o6, gUpd_o7, gUpd_o8, gUpd_o9, gUpd_o10, gUpd_o11, gUpd_o12, gUpd_o13, gUpd_o14, gUpd_o15, gUpd_o16, gUpd_o17, gUpd_o18, gIsO_o, Option.bind_some, List.getElem?_cons_zero, List.getElem?_cons_succ, List.length_cons, List.length_nil, List.set_cons_zero, List.set_cons_succ, gCat_nil, gCat_int, gCat_ref, if_pos, if_neg, Option.toList_some, Option.toList_none, List.cons_append, List.nil_append, B_nar, J1_nar, J0_nar, if_true, if_false, rd_wr_same, rd_wr_ne, true_and, and_true, B_0, B_1, not_true_eq_false, not_false_eq_true, i0, e0, c1, c2, c3', f0, f1, f2, f3]
