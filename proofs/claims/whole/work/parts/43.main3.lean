theorem isX_tr {w : gWd} {p q : Nat} {X K S : Lay} {PT KT : Nat → Lay} (hX : isX w p q X K S PT KT) {T : Lay} (hT : nS T) : isX (putS w 16 T) p q X K S PT KT := by
  obtain ⟨i0, iT, iR, iK, iQ, iS, inS, iTr, iP, iKp, iE, iH, iW, iD, hpq⟩ := id hX
  have hb := gSTR_big
  have F : ∀ z, (z < 16 ∨ 19 < z) → rd (putS w 16 T) z = rd w z := fun z hz => rd_putS (by omega)
  exact ⟨(by rw [F 0 (by omega)]; exact i0), (by rw [F 1 (by omega)]; exact iT), (cR_fr iR (fun z z1 z2 => F z (by omega))), (isMe_fr iK (fun z z1 z2 => F z (by omega))), (cQ_fr iQ (fun z z1 z2 => F z (by omega))), (isSt_fr iS (fun z z1 z2 => F z (by omega))), inS, ⟨T, isSt_putS (by omega), hT⟩, (isSh_fr iP (fun z z1 z2 => F z (by omega))), (isSh_fr iKp (fun z z1 z2 => F z (by omega))), (cE_fr iE (fun z z1 z2 => F z (by omega))), (cH_fr iH (fun z z1 z2 => F z (by omega))), (cW_fr iW (fun z z1 z2 => F z (by omega))), (cD_fr iD (fun z z1 z2 => F z (by omega))), hpq⟩
theorem isX_now {w : gWd} {p q : Nat} {X K S : Lay} {PT KT : Nat → Lay} (hX : isX w p q X K S PT KT) {T : Lay} (hT : nS T) : isX (putS w 12 T) p q X K T PT KT := by
  obtain ⟨i0, iT, iR, iK, iQ, iS, inS, iTr, iP, iKp, iE, iH, iW, iD, hpq⟩ := id hX
  have hb := gSTR_big
  have F : ∀ z, (z < 12 ∨ 15 < z) → rd (putS w 12 T) z = rd w z := fun z hz => rd_putS (by omega)
  exact ⟨(by rw [F 0 (by omega)]; exact i0), (by rw [F 1 (by omega)]; exact iT), (cR_fr iR (fun z z1 z2 => F z (by omega))), (isMe_fr iK (fun z z1 z2 => F z (by omega))), (cQ_fr iQ (fun z z1 z2 => F z (by omega))), (isSt_putS (by omega)), hT, (cTr_fr iTr (fun z z1 z2 => F z (by omega))), (isSh_fr iP (fun z z1 z2 => F z (by omega))), (isSh_fr iKp (fun z z1 z2 => F z (by omega))), (cE_fr iE (fun z z1 z2 => F z (by omega))), (cH_fr iH (fun z z1 z2 => F z (by omega))), (cW_fr iW (fun z z1 z2 => F z (by omega))), (cD_fr iD (fun z z1 z2 => F z (by omega))), hpq⟩
theorem cH_put {w : gWd} (h : cH w) : ∃ f, w = putH w 69 f ∧ ∀ x : Int, 8 ≤ x → f x = 0 := by
  obtain ⟨h0, f, h1, h2⟩ := h
  exact ⟨f, (wr_self h1).symm, h2⟩
theorem isX_hp {w : gWd} {p q : Nat} {X K S : Lay} {PT KT : Nat → Lay} (hX : isX w p q X K S PT KT) {f : Int → Int} (hf : ∀ x : Int, 8 ≤ x → f x = 0) : isX (putH w 69 f) p q X K S PT KT := by
  obtain ⟨i0, iT, iR, iK, iQ, iS, inS, iTr, iP, iKp, iE, iH, iW, iD, hpq⟩ := id hX
  have F : ∀ z, z ≠ 70 → rd (putH w 69 f) z = rd w z := fun z hz => rdHn hz
  exact ⟨(by rw [F 0 (by omega)]; exact i0), (by rw [F 1 (by omega)]; exact iT), (cR_fr iR (fun z z1 z2 => F z (by omega))), (isMe_fr iK (fun z z1 z2 => F z (by omega))), (cQ_fr iQ (fun z z1 z2 => F z (by omega))), (isSt_fr iS (fun z z1 z2 => F z (by omega))), inS, (cTr_fr iTr (fun z z1 z2 => F z (by omega))), (isSh_fr iP (fun z z1 z2 => F z (by omega))), (isSh_fr iKp (fun z z1 z2 => F z (by omega))), (cE_fr iE (fun z z1 z2 => F z (by omega))), ⟨⟨iH.1.1, by rw [F 69 (by omega)]; exact iH.1.2⟩, f, rdH1, hf⟩, (cW_fr iW (fun z z1 z2 => F z (by omega))), (cD_fr iD (fun z z1 z2 => F z (by omega))), hpq⟩
theorem lab_z (K : Lay) (s : Nat) : ∀ (n : Nat) (x : Int), 8 ≤ x → lab K s n x = 0 := by
  intro n
  induction n with
  | zero => intro x hx; exact if_neg (by omega)
  | succ n ih =>
    intro x hx
    rw [lab]
    split
    · unfold mrg
      split
      · exact ih x hx
      · dsimp only
        rw [if_neg (by omega)]
        exact ih x hx
    · exact ih x hx
theorem s63x {nat : gNat} {d : Nat} {w : gWd} {p q : Nat} {X K S : Lay} {PT KT : Nat → Lay} (hX : isX w p q X K S PT KT) (hK : vK K) (hS : vS K S) : gC nat (d + 3) 63 [.ref 12, .ref p] w = some (some (.int (J (cb K S))), w) := by
  obtain ⟨i0, iT, iR, iK, iQ, iS, inS, iTr, iP, iKp, iE, iH, iW, iD, hpq⟩ := id hX
  have c := s63 (nat := nat) (d := d) (w := w) (a := 12) (S := S) iK hK (by omega) iS.1 (cbs_in hK hS)
  rw [putS_self iS] at c
  exact c
theorem s62x {nat : gNat} {d : Nat} {w : gWd} {p q : Nat} {X K S : Lay} {PT KT : Nat → Lay} (hX : isX w p q X K S PT KT) (hK : vK K) (hS : vS K S) {g : Int} (hg : 0 ≤ g ∧ g ≤ K 0 1 - 1) : gC nat (d + 2) 62 [.ref 12, .ref p, .int (J g)] w = some (some (.int (B (K 1 (5 * g + 4) ≤ S 1 g))), w) := by
  obtain ⟨i0, iT, iR, iK, iQ, iS, inS, iTr, iP, iKp, iE, iH, iW, iD, hpq⟩ := id hX
  have c := s62 (nat := nat) (d := d) (w := w) (a := 12) (S := S) iK hK (by omega) iS.1 (g := g) (by omega) (cbs_in hK hS g (by omega) (by omega))
  rw [putS_self iS] at c
  exact c
theorem s58x {nat : gNat} {d : Nat} {w : gWd} {p q : Nat} {X K S : Lay} {PT KT : Nat → Lay} (hX : isX w p q X K S PT KT) : gC nat (d + 2) 58 [.ref 16, .ref 12] w = some (none, putS w 16 S) := by
  obtain ⟨i0, iT, iR, iK, iQ, iS, inS, iTr, iP, iKp, iE, iH, iW, iD, hpq⟩ := id hX
  obtain ⟨T, h1, h2⟩ := iTr
  exact s58w h1 iS (by omega) h2 inS
theorem s7x {nat : gNat} {d : Nat} {w : gWd} {p q : Nat} {X K S : Lay} {PT KT : Nat → Lay} (hX : isX w p q X K S PT KT) (hK : vK K) {s : Nat} (hs : s < 256) : gC nat (d + 3) 7 [.ref 69, .ref p, .int (J s)] w = some (none, putH w 69 (lab K s (K 0 1).toNat)) := by
  obtain ⟨i0, iT, iR, iK, iQ, iS, inS, iTr, iP, iKp, iE, iH, iW, iD, hpq⟩ := id hX
  obtain ⟨f, h1, h2⟩ := cH_put iH
  have c := s7 (nat := nat) (d := d) (w := w) (h := 69) (m := p) (f := f) iK hK (by omega) iH.1 hs h2
  rw [← h1] at c
  exact c
def pX (X : Lay) : Lay := if X 0 1 < 8 then sset X 0 1 (X 0 1 + 1) else sset X 0 2 ((X 0 2 + 1) % 8)
def pT (X S : Lay) (PT : Nat → Lay) : Nat → Lay := fun i => if i = (if X 0 1 < 8 then ((X 0 2 + X 0 1) % 8).toNat else (((X 0 2 + 1) % 8 + (X 0 1 - 1)) % 8).toNat) then S else PT i
abbrev rX (X : Lay) : Prop := (0 ≤ X 0 0 ∧ X 0 0 ≤ 200) ∧ (∀ i, 0 ≤ i → i < 200 → 0 ≤ X 1 i ∧ X 1 i < 128) ∧ (0 ≤ X 0 1 ∧ X 0 1 ≤ 8) ∧ (0 ≤ X 0 2 ∧ X 0 2 < 8) ∧ (0 ≤ X 0 3 ∧ X 0 3 ≤ 2) ∧ (0 ≤ X 0 4 ∧ X 0 4 ≤ 8)
theorem s52x {nat : gNat} {d : Nat} {w : gWd} {p q : Nat} {X K S : Lay} {PT KT : Nat → Lay} (hX : isX w p q X K S PT KT) (hr : rX X) : ∃ w', gC nat (d + 3) 52 [.ref 20, .ref 12] w = some (none, w') ∧ isX w' p q (pX X) K S (pT X S PT) KT ∧ rd w' 0 = rd w 0 ∧ (∀ z, 96 ≤ z → rd w' z = rd w z) ∧ w'.2 = w.2 := by
  obtain ⟨i0, iT, iR, iK, iQ, iS, inS, iTr, iP, iKp, iE, iH, iW, iD, hpq⟩ := id hX
  obtain ⟨r0, rT, r1, r2, r3, r4⟩ := hr
  obtain ⟨w', g1, g2, g3, g4⟩ := s52 (nat := nat) (d := d) iP (by omega) (by omega) (by omega) iS inS (by omega)
  have F : ∀ z, (z < 20 ∨ 54 ≤ z) → rd w' z = rd w z := fun z hz => g3 z (by omega)
  refine ⟨w', g1, ?_, F 0 (by omega), fun z hz => F z (by omega), g4⟩
  unfold pX pT
  by_cases h : X 0 1 < 8
  · rw [if_pos h]
    rw [if_pos (show X 0 1 < ((8 : Nat) : Int) from h), if_pos (show X 0 1 < ((8 : Nat) : Int) from h), if_pos (show X 0 1 < ((8 : Nat) : Int) from h)] at g2
    simp only [if_pos h]
    exact ⟨(by rw [F 0 (by omega)]; exact i0), (by rw [F 1 (by omega)]; exact iT), (cR_fr iR (fun z z1 z2 => F z (by omega))), (isMe_fr iK (fun z z1 z2 => F z (by omega))), (cQ_fr iQ (fun z z1 z2 => F z (by omega))), (isSt_fr iS (fun z z1 z2 => F z (by omega))), inS, (cTr_fr iTr (fun z z1 z2 => F z (by omega))), g2, (isSh_fr iKp (fun z z1 z2 => F z (by omega))), (cE_fr iE (fun z z1 z2 => F z (by omega))), (cH_fr iH (fun z z1 z2 => F z (by omega))), (cW_fr iW (fun z z1 z2 => F z (by omega))), (cD_fr iD (fun z z1 z2 => F z (by omega))), hpq⟩
  · rw [if_neg h]
    rw [if_neg (show ¬ X 0 1 < ((8 : Nat) : Int) from h), if_neg (show ¬ X 0 1 < ((8 : Nat) : Int) from h), if_neg (show ¬ X 0 1 < ((8 : Nat) : Int) from h)] at g2
    simp only [if_neg h]
    exact ⟨(by rw [F 0 (by omega)]; exact i0), (by rw [F 1 (by omega)]; exact iT), (cR_fr iR (fun z z1 z2 => F z (by omega))), (isMe_fr iK (fun z z1 z2 => F z (by omega))), (cQ_fr iQ (fun z z1 z2 => F z (by omega))), (isSt_fr iS (fun z z1 z2 => F z (by omega))), inS, (cTr_fr iTr (fun z z1 z2 => F z (by omega))), g2, (isSh_fr iKp (fun z z1 z2 => F z (by omega))), (cE_fr iE (fun z z1 z2 => F z (by omega))), (cH_fr iH (fun z z1 z2 => F z (by omega))), (cW_fr iW (fun z z1 z2 => F z (by omega))), (cD_fr iD (fun z z1 z2 => F z (by omega))), hpq⟩
def aClo (K S : Lay) (g : Int) : Int := if okG K g then (cfr K S g 0 60).1 else -1
def lef (K S : Lay) : Int := if 24 ≤ K 0 3 then 24 else if 0 < K 0 3 - S 0 0 % 24 then K 0 3 - S 0 0 % 24 else 0

theorem x88 {nat : gNat} {d : Nat} {w : gWd} {p q : Nat} {X K S : Lay} {PT KT : Nat → Lay} (hX : isX w p q X K S PT KT) (hK : vK K) (hS : vS K S) (hH : 0 ≤ S 0 0 ∧ S 0 0 < 1000000) {g : Int} (h_g : -2147483648 ≤ g ∧ g < 2147483648)  : ∃ w', gC nat (d + 25) 88 [.ref 0, .int (J g)] w = some (some (.int (J (aClo K S g))), w') ∧ isX w' p q X K S PT KT ∧ (∀ z, 96 ≤ z → rd w' z = rd w z) ∧ w'.2 = w.2 := by
  rw [en88]
  obtain ⟨i0, iT, iR, iK, iQ, iS, inS, iTr, iP, iKp, iE, iH, iW, iD, hpq⟩ := id hX
  have hb := gSTR_big
  unfold aClo
  have c1 := s105 (nat := nat) (d := d + 22) (w := w) i0 iK hK (g := g) h_g
  by_cases h1 : okG K g
  · rw [B_pos h1] at c1
    rw [if_pos h1]
    obtain ⟨T, t1, t2⟩ := iTr
    have c2 := s58x (nat := nat) (d := d + 22) hX
    have c3 := s70 (nat := nat) (d := d + 19) (w := w) (a := 16) (S := S) iK hK (by omega) (by omega) hS (g := g) (by omega) (N := 60) (by omega)
    rw [show ((60 : Nat) : Int) = 60 from rfl] at c3
    have f0 : rd (putS w 16 S) 0 = _ := (rd_putS (by omega)).trans i0
    have f1 : rd (putS w 16 S) 16 = _ := rdP0
    refine ⟨_, ?_, isX_tr hX (nS_lives hK hS inS (cfr K S g 0 60).2), fun z hz => rd_putS (by omega), rfl⟩
    simp (disch := first | omega | exact Nat.le_of_ble_eq_true rfl) only [e88_0, e88_1, e88_2, e88_5, e88_8, e88_9, e88_10, e88_11, e88_14, e88_15, e88_18, e88_21, e88_22, e88_25, e88_26, e88_29, e88_30, e88_32, e88_35, J_add, J_sub, J_mul, J_neg, J_lt, J_le, J_eq, gArr_J, gAst_J, gSiz_J, gFld_o, gUpd_o0, gUpd_o1, gUpd_o2, gUpd_o3, gUpd_o4, gUpd_o5, gUpd_o6, gUpd_o7, gUpd_o8, gUpd_o9, gUpd_o10, gUpd_o11, gUpd_o12, gUpd_o13, gUpd_o14, gUpd_o15, gUpd_o16, gUpd_o17, gUpd_o18, gIsO_o, Option.bind_some, List.getElem?_cons_zero, List.getElem?_cons_succ, List.length_cons, List.length_nil, List.set_cons_zero, List.set_cons_succ, gCat_nil, gCat_int, gCat_ref, if_pos, if_neg, Option.toList_some, Option.toList_none, List.cons_append, List.nil_append, B_nar, J1_nar, J0_nar, if_true, if_false, rd_wr_same, rd_wr_ne, true_and, and_true, B_0, B_1, not_true_eq_false, not_false_eq_true, i0, t1.2.1, f0, f1, c1, c2, c3]
  · rw [B_neg h1] at c1
    rw [if_neg h1]
    refine ⟨w, ?_, hX, fun _ _ => rfl, rfl⟩
    simp (disch := first | omega | exact Nat.le_of_ble_eq_true rfl) only [e88_0, e88_1, e88_2, e88_5, e88_8, e88_9, e88_10, e88_11, e88_14, e88_15, e88_18, e88_21, e88_22, e88_25, e88_26, e88_29, e88_30, e88_32, e88_35, J_add, J_sub, J_mul, J_neg, J_lt, J_le, J_eq, gArr_J, gAst_J, gSiz_J, gFld_o, gUpd_o0, gUpd_o1, gUpd_o2, gUpd_o3, gUpd_o4, gUpd_o5, gUpd_o6, gUpd_o7, gUpd_o8, gUpd_o9, gUpd_o10, gUpd_o11, gUpd_o12, gUpd_o13, gUpd_o14, gUpd_o15, gUpd_o16, gUpd_o17, gUpd_o18, gIsO_o, Option.bind_some, List.getElem?_cons_zero, List.getElem?_cons_succ, List.length_cons, List.length_nil, List.set_cons_zero, List.set_cons_succ, gCat_nil, gCat_int, gCat_ref, if_pos, if_neg, Option.toList_some, Option.toList_none, List.cons_append, List.nil_append, B_nar, J1_nar, J0_nar, if_true, if_false, rd_wr_same, rd_wr_ne, true_and, and_true, B_0, B_1, not_true_eq_false, not_false_eq_true, i0, c1]

theorem x89 {nat : gNat} {d : Nat} {w : gWd} {p q : Nat} {X K S : Lay} {PT KT : Nat → Lay} (hX : isX w p q X K S PT KT) (hK : vK K) (hS : vS K S) (hH : 0 ≤ S 0 0 ∧ S 0 0 < 1000000)  : ∃ w', gC nat (d + 25) 89 [.ref 0] w = some (some (.int (J (cb K (lives K S (lef K S).toNat)))), w') ∧ isX w' p q X K S PT KT ∧ (∀ z, 96 ≤ z → rd w' z = rd w z) ∧ w'.2 = w.2 := by
  rw [en89]
  obtain ⟨i0, iT, iR, iK, iQ, iS, inS, iTr, iP, iKp, iE, iH, iW, iD, hpq⟩ := id hX
  have hb := gSTR_big
  obtain ⟨T, t1, t2⟩ := iTr
  have hl : 0 ≤ lef K S ∧ lef K S ≤ 24 := by
    have := hK.2.2.2.1
    unfold lef
    split
    · omega
    split
    · omega
    · omega
  have c2 := s58x (nat := nat) (d := d + 22) hX
  have c3 := s21 (nat := nat) (d := d + 23) (w := putS w 16 S) (m := p) (K := K) (h := S 0 0) (isMe_putS (by unfold off; omega) iK) hK (by omega)
  have c4 := s69 (nat := nat) (d := d + 19) (w := w) (a := 16) (S := S) iK hK (by omega) (by omega) hS (N := (lef K S).toNat) (by omega)
  rw [show (((lef K S).toNat : Nat) : Int) = lef K S by omega] at c4
  have c3' : gC nat (d + 24) 21 [.ref p, .int (J (S 0 0))] (putS w 16 S) = some (some (.int (J (lef K S))), putS w 16 S) := c3
  have hx := isX_tr hX (nS_lives hK hS inS (lef K S).toNat)
  have c5 := s63 (nat := nat) (d := d + 21) (w := w) (a := 16) (m := p) (S := lives K S (lef K S).toNat) iK hK (by omega) (by omega) (cbs_in hK (vS_lives hK hS _))
  have f0 : ∀ S, rd (putS w 16 S) 0 = _ := fun S => (rd_putS (by omega)).trans i0
  have f1 : ∀ S, rd (putS w 16 S) 16 = _ := fun S => rdP0
  have f2 : rd (putS w 16 S) p = _ := (rd_putS (by omega)).trans iK.2.1
  have f3 : rd (putS w 16 S) 12 = _ := (rd_putS (by omega)).trans iS.2.1
  refine ⟨_, ?_, hx, fun z hz => rd_putS (by omega), rfl⟩
  simp (disch := first | omega | exact Nat.le_of_ble_eq_true rfl) only [e89_0, e89_1, e89_4, e89_5, e89_8, e89_11, e89_12, e89_15, e89_16, e89_19, e89_20, e89_23, e89_24, e89_27, e89_30, e89_33, e89_36, e89_37, e89_40, e89_41, e89_44, e89_47, J_add, J_sub, J_mul, J_neg, J_lt, J_le, J_eq, gArr_J, gAst_J, gSiz_J, gFld_o, gUpd_o0, gUpd_o1, gUpd_o2, gUpd_o3, gUpd_o4, gUpd_o5, gUpd_o6, gUpd_o7, gUpd_o8, gUpd_o9, gUpd_o10, gUpd_o11, gUpd_o12, gUpd_o13, gUpd_o14, gUpd_o15, gUpd_o16, gUpd_o17, gUpd_o18, gIsO_o, Option.bind_some, List.getElem?_cons_zero, List.getElem?_cons_succ, List.length_cons, List.length_nil, List.set_cons_zero, List.set_cons_succ, gCat_nil, gCat_int, gCat_ref, if_pos, if_neg, Option.toList_some, Option.toList_none, List.cons_append, List.nil_append, B_nar, J1_nar, J0_nar, if_true, if_false, rd_wr_same, rd_wr_ne, true_and, and_true, B_0, B_1, not_true_eq_false, not_false_eq_true, i0, t1.2.1, f0, f1, f2, f3, c2, c3', c4, c5]

theorem x85 {nat : gNat} {d : Nat} {w : gWd} {p q : Nat} {X K S : Lay} {PT KT : Nat → Lay} (hX : isX w p q X K S PT KT) (hK : vK K) (hS : vS K S) (hH : 0 ≤ S 0 0 ∧ S 0 0 < 1000000) (hr : rX X) {n : Int} (h_n : -2147483648 ≤ n ∧ n < 2147483648)  : ∃ w', gC nat (d + 25) 85 [.ref 0, .int (J n)] w = some (some (.int (J (if 1 ≤ n ∧ n ≤ 24 then S 0 0 + n else -1))), w') ∧ isX w' p q (if 1 ≤ n ∧ n ≤ 24 then pX X else X) K (if 1 ≤ n ∧ n ≤ 24 then lives K S n.toNat else S) (if 1 ≤ n ∧ n ≤ 24 then pT X S PT else PT) KT ∧ (∀ z, 96 ≤ z → rd w' z = rd w z) ∧ w'.2 = w.2 := by
  rw [en85]
  obtain ⟨i0, iT, iR, iK, iQ, iS, inS, iTr, iP, iKp, iE, iH, iW, iD, hpq⟩ := id hX
  have c1 := s113 (nat := nat) (d := d + 23) (w := w) (x := n) (l := 1) (h := 24) (by omega) (by omega) (by omega)
  have hb := gSTR_big
  by_cases h1 : 1 ≤ n ∧ n ≤ 24
  · rw [B_pos h1] at c1
    simp only [if_pos h1]
    obtain ⟨w1, g1, g2, g3, g4, g5⟩ := s52x (nat := nat) (d := d + 21) hX hr
    obtain ⟨j0, jT, jR, jK, jQ, jS, jnS, jTr, jP, jKp, jE, jH, jW, jD, -⟩ := id g2
    have c3 := s69 (nat := nat) (d := d + 19) (w := w1) (a := 12) (S := S) jK hK (by omega) (by omega) hS (N := n.toNat) (by omega)
    rw [putS_self jS, show ((n.toNat : Nat) : Int) = n by omega] at c3
    have hl := lives_h K S n.toNat
    rw [show ((n.toNat : Nat) : Int) = n by omega] at hl
    have f0 : rd w1 0 = _ := g3.trans i0
    have f1 : rd (putS w1 12 (lives K S n.toNat)) 0 = _ := (rd_putS (by omega)).trans f0
    have f2 : rd (putS w1 12 (lives K S n.toNat)) 12 = oC 7 [.int (J (S 0 0 + n)), .ref (12 + 1), .ref (12 + 2), .ref (12 + 3)] := by rw [← hl]; exact rdP0
    refine ⟨_, ?_, isX_now g2 (nS_lives hK hS inS n.toNat), fun z hz => (rd_putS (by omega)).trans (g4 z hz), g5⟩
    simp (disch := first | omega | exact Nat.le_of_ble_eq_true rfl) only [e85_0, e85_1, e85_2, e85_4, e85_7, e85_10, e85_11, e85_12, e85_13, e85_16, e85_17, e85_20, e85_23, e85_24, e85_27, e85_28, e85_31, e85_32, e85_35, e85_36, e85_39, e85_42, J_add, J_sub, J_mul, J_neg, J_lt, J_le, J_eq, gArr_J, gAst_J, gSiz_J, gFld_o, gUpd_o0, gUpd_o1, gUpd_o2, gUpd_o3, gUpd_o4, gUpd_o5, gUpd_o6, gUpd_o7, gUpd_o8, gUpd_o9, gUpd_o10, gUpd_o11, gUpd_o12, gUpd_o13, gUpd_o14, gUpd_o15, gUpd_o16, gUpd_o17, gUpd_o18, gIsO_o, Option.bind_some, List.getElem?_cons_zero, List.getElem?_cons_succ, List.length_cons, List.length_nil, List.set_cons_zero, List.set_cons_succ, gCat_nil, gCat_int, gCat_ref, if_pos, if_neg, Option.toList_some, Option.toList_none, List.cons_append, List.nil_append, B_nar, J1_nar, J0_nar, if_true, if_false, rd_wr_same, rd_wr_ne, true_and, and_true, B_0, B_1, not_true_eq_false, not_false_eq_true, i0, iP.2.1, f0, f1, f2, jS.2.1, c1, g1, c3]
  · rw [B_neg h1] at c1
    simp only [if_neg h1]
    refine ⟨w, ?_, hX, fun _ _ => rfl, rfl⟩
    simp (disch := first | omega | exact Nat.le_of_ble_eq_true rfl) only [e85_0, e85_1, e85_2, e85_4, e85_7, e85_10, e85_11, e85_12, e85_13, e85_16, e85_17, e85_20, e85_23, e85_24, e85_27, e85_28, e85_31, e85_32, e85_35, e85_36, e85_39, e85_42, J_add, J_sub, J_mul, J_neg, J_lt, J_le, J_eq, gArr_J, gAst_J, gSiz_J, gFld_o, gUpd_o0, gUpd_o1, gUpd_o2, gUpd_o3, gUpd_o4, gUpd_o5, gUpd_o6, gUpd_o7, gUpd_o8, gUpd_o9, gUpd_o10, gUpd_o11, gUpd_o12, gUpd_o13, gUpd_o14, gUpd_o15, gUpd_o16, gUpd_o17, gUpd_o18, gIsO_o, Option.bind_some, List.getElem?_cons_zero, List.getElem?_cons_succ, List.length_cons, List.length_nil, List.set_cons_zero, List.set_cons_succ, gCat_nil, gCat_int, gCat_ref, if_pos, if_neg, Option.toList_some, Option.toList_none, List.cons_append, List.nil_append, B_nar, J1_nar, J0_nar, if_true, if_false, rd_wr_same, rd_wr_ne, true_and, and_true, B_0, B_1, not_true_eq_false, not_false_eq_true, i0, c1]
