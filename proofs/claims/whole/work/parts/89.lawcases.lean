theorem isX_fr {w w' : gWd} {p q : Nat} {X K S : Lay} {PT KT : Nat → Lay} (hX : isX w p q X K S PT KT) (hf : ∀ z, z < 96 → rd w' z = rd w z) : isX w' p q X K S PT KT := by
  obtain ⟨i0, iT, iR, iK, iQ, iS, inS, iTr, iP, iKp, iE, iH, iW, iD, hpq⟩ := id hX
  exact ⟨(by rw [hf 0 (by omega)]; exact i0), (by rw [hf 1 (by omega)]; exact iT), (cR_fr iR (fun z z1 z2 => hf z (by omega))), (isMe_fr iK (fun z z1 z2 => hf z (by omega))), (cQ_fr iQ (fun z z1 z2 => hf z (by omega))), (isSt_fr iS (fun z z1 z2 => hf z (by omega))), inS, (cTr_fr iTr (fun z z1 z2 => hf z (by omega))), (isSh_fr iP (fun z z1 z2 => hf z (by omega))), (isSh_fr iKp (fun z z1 z2 => hf z (by omega))), (cE_fr iE (fun z z1 z2 => hf z (by omega))), (cH_fr iH (fun z z1 z2 => hf z (by omega))), (cW_fr iW (fun z z1 z2 => hf z (by omega))), (cD_fr iD (fun z z1 z2 => hf z (by omega))), hpq⟩
def lawW (t : Int) (w : gWd) : Prop := ∃ (p q : Nat) (X K S : Lay) (PT KT : Nat → Lay) (M : Lay), isX w p q X K S PT KT ∧ w = putM w 96 M ∧ rd w gSCR = none ∧ w.2 = (109, 1452) ∧ stI t X K S PT KT M
theorem putM_tr {w w' : gWd} {M : Lay} (h : w = putM w 96 M) (hf : ∀ z, 96 ≤ z → rd w' z = rd w z) : w' = putM w' 96 M := by
  refine putM_rd rfl ?_ ?_ ?_ ?_ ?_ ?_ ?_ ?_ ?_ ?_ ?_ ?_ ?_ (fun b hb => rfl)
  · rw [hf 96 (by omega), h]
    exact rdM0
  · rw [hf 97 (by omega), h]
    exact rdM1
  · rw [hf 98 (by omega), h]
    exact rdM2
  · rw [hf 99 (by omega), h]
    exact rdM3
  · rw [hf 100 (by omega), h]
    exact rdM4
  · rw [hf 101 (by omega), h]
    exact rdM5
  · rw [hf 102 (by omega), h]
    exact rdM6
  · rw [hf 103 (by omega), h]
    exact rdM7
  · rw [hf 104 (by omega), h]
    exact rdM8
  · rw [hf 105 (by omega), h]
    exact rdM9
  · rw [hf 106 (by omega), h]
    exact rdM10
  · rw [hf 107 (by omega), h]
    exact rdM11
  · rw [hf 108 (by omega), h]
    exact rdM12
theorem put96 {w : gWd} {p q : Nat} {X K S : Lay} {PT KT : Nat → Lay} (hX : isX w p q X K S PT KT) (M : Lay) : isX (putM w 96 M) p q X K S PT KT := isX_fr hX (fun z hz => rdMn (Or.inl hz))
theorem put_put {w : gWd} {M N : Lay} : putM (putM w 96 M) 96 N = putM w 96 N := by
  refine putM_rd rfl rdM0 rdM1 rdM2 rdM3 rdM4 rdM5 rdM6 rdM7 rdM8 rdM9 rdM10 rdM11 rdM12 (fun b hb => ?_)
  rw [rdMn hb, rdMn hb]
theorem o96 {w : gWd} {M : Lay} (h : w = putM w 96 M) : gIsO (rd w 96) 9 = true := by
  rw [h, rdM0]
  exact gIsO_o
theorem o0 {w : gWd} {p q : Nat} {X K S : Lay} {PT KT : Nat → Lay} (hX : isX w p q X K S PT KT) : gIsO (rd w 0) 8 = true := by
  rw [hX.1]
  exact gIsO_o
/-- both sides answer alike and stand alike -/
theorem pair_ok {t : Int} {w w1 w2 : gWd} {p q : Nat} {X K S : Lay} {PT KT : Nat → Lay} {M' : Lay} (hX : isX w1 p q X K S PT KT) (hf : ∀ z, 96 ≤ z → rd w1 z = rd w z) (hs : rd w gSCR = none) (hz : w.2 = (109, 1452)) (hz1 : w1.2 = w.2) (hI : stI t X K S PT KT M') (e : w2 = putM w1 96 M') : lawW t w2 := by
  subst e
  refine ⟨p, q, X, K, S, PT, KT, M', put96 hX M', put_put.symm, ?_, hz1.trans hz, hI⟩
  rw [rdMn (Or.inr (by decide)), hf _ (by decide)]
  exact hs

theorem k0 {nat : gNat} {t : Int} {w : gWd} {i : Int} (hi : 0 ≤ i ∧ i < 1000) (ht0 : 0 ≤ t) (ht : t ≤ 900) (hW : lawW t w) {a1 : Int} (h_a1 : -2147483648 ≤ a1 ∧ a1 < 2147483648) (n1 : nat.1 13 [.int (J (i + 1))] = some (.int (J a1))) : ∃ w', gX (gC gNatNo 30) nat 193 160 [some (.ref gSCR), some (.ref 0), some (.ref 96), some (.int (J i))] [] [] w = gX (gC gNatNo 30) nat 193 894 [some (.ref gSCR), some (.ref 0), some (.ref 96), some (.int (J i))] [] [] w' ∧ lawW (t + 1) w' := by
  obtain ⟨p, q, X, K, S, PT, KT, M, hX, hM, hs, hz, hI⟩ := hW
  obtain ⟨iR, hK, hkk, ⟨hS, hH⟩, iP, iKp, iE, iT, hL, hR, ⟨m0, m3, m4, m5, m6⟩⟩ := id hI
  have s0 := hS.1
  have hH' : 0 ≤ S 0 0 ∧ S 0 0 < 1000000 := ⟨s0, by omega⟩
  have hx : 96 + 12 < gSTR := by decide
  have b0 := o0 hX
  have b96 := o96 hM
  obtain ⟨w1, c1, x1, x2, x3⟩ := x76 (nat := gNatNo) (d := 5) (w := w) hX hK hS hH' iR.1 h_a1
  rw [show (5 : Nat) + 25 = 30 from rfl] at c1
  have hM1 := putM_tr hM x2
  have b1 := o96 hM1
  have hs1 : rd w1 gSCR = none := by rw [x2 _ (by decide)]; exact hs
  obtain ⟨M', c2, g2⟩ := z125 (nat := gNatNo) (d := 26) (w := w1) (x := 96) (M := M) hx hI (by omega) h_a1
  rw [← hM1, show (26 : Nat) + 4 = 30 from rfl] at c2
  refine ⟨putM w1 96 M', ?_, pair_ok x1 x2 hs hz x3 (stI_mono g2 (by omega)) rfl⟩
  simp (disch := first | omega | exact Nat.le_of_ble_eq_true rfl) only [e193_160, e193_161, e193_162, e193_163, e193_164, e193_165, e193_166, e193_169, e193_170, e193_171, e193_172, e193_173, e193_174, e193_175, e193_178, e193_181, e193_182, J_add, J_sub, J_mul, J_neg, J_lt, J_le, gArr_J, gAst_J, gSiz_J, gFld_o, gUpd_o0, gUpd_o1, gUpd_o2, gUpd_o3, gUpd_o4, gUpd_o5, gUpd_o6, gUpd_o7, gUpd_o8, gUpd_o9, gUpd_o10, gUpd_o11, gUpd_o12, gUpd_o13, gUpd_o14, gUpd_o15, gUpd_o16, gUpd_o17, gUpd_o18, gIsO_o, Option.bind_some, List.getElem?_cons_zero, List.getElem?_cons_succ, List.length_cons, List.length_nil, List.set_cons_zero, List.set_cons_succ, gCat_nil, gCat_int, gCat_ref, if_pos, if_neg, Option.toList_some, Option.toList_none, List.cons_append, List.nil_append, B_nar, J1_nar, J0_nar, if_true, if_false, rd_wr_same, rd_wr_ne, true_and, and_true, B_0, B_1, not_true_eq_false, not_false_eq_true, eq_self, Option.bind_some, hs, hs1, b0, b1, c1, c2, gCat_nil, n1]

theorem k1 {nat : gNat} {t : Int} {w : gWd} {i : Int} (hi : 0 ≤ i ∧ i < 1000) (ht0 : 0 ≤ t) (ht : t ≤ 900) (hW : lawW t w) : ∃ w', gX (gC gNatNo 30) nat 193 183 [some (.ref gSCR), some (.ref 0), some (.ref 96), some (.int (J i))] [] [] w = gX (gC gNatNo 30) nat 193 894 [some (.ref gSCR), some (.ref 0), some (.ref 96), some (.int (J i))] [] [] w' ∧ lawW (t + 1) w' := by
  obtain ⟨p, q, X, K, S, PT, KT, M, hX, hM, hs, hz, hI⟩ := hW
  obtain ⟨iR, hK, hkk, ⟨hS, hH⟩, iP, iKp, iE, iT, hL, hR, ⟨m0, m3, m4, m5, m6⟩⟩ := id hI
  have s0 := hS.1
  have hH' : 0 ≤ S 0 0 ∧ S 0 0 < 1000000 := ⟨s0, by omega⟩
  have hx : 96 + 12 < gSTR := by decide
  have b0 := o0 hX
  have b96 := o96 hM
  obtain ⟨w1, c1, x1, x2, x3⟩ := x77 (nat := gNatNo) (d := 5) (w := w) hX hK hS hH' 
  rw [show (5 : Nat) + 25 = 30 from rfl] at c1
  have hM1 := putM_tr hM x2
  have b1 := o96 hM1
  have hs1 : rd w1 gSCR = none := by rw [x2 _ (by decide)]; exact hs
  obtain ⟨M', c2, g2⟩ := z126 (nat := gNatNo) (d := 26) (w := w1) (x := 96) (M := M) hx hI (by omega) 
  rw [← hM1, show (26 : Nat) + 4 = 30 from rfl] at c2
  refine ⟨putM w1 96 M', ?_, pair_ok x1 x2 hs hz x3 (stI_mono g2 (by omega)) rfl⟩
  simp (disch := first | omega | exact Nat.le_of_ble_eq_true rfl) only [e193_183, e193_184, e193_187, e193_188, e193_191, e193_194, e193_195, J_add, J_sub, J_mul, J_neg, J_lt, J_le, gArr_J, gAst_J, gSiz_J, gFld_o, gUpd_o0, gUpd_o1, gUpd_o2, gUpd_o3, gUpd_o4, gUpd_o5, gUpd_o6, gUpd_o7, gUpd_o8, gUpd_o9, gUpd_o10, gUpd_o11, gUpd_o12, gUpd_o13, gUpd_o14, gUpd_o15, gUpd_o16, gUpd_o17, gUpd_o18, gIsO_o, Option.bind_some, List.getElem?_cons_zero, List.getElem?_cons_succ, List.length_cons, List.length_nil, List.set_cons_zero, List.set_cons_succ, gCat_nil, gCat_int, gCat_ref, if_pos, if_neg, Option.toList_some, Option.toList_none, List.cons_append, List.nil_append, B_nar, J1_nar, J0_nar, if_true, if_false, rd_wr_same, rd_wr_ne, true_and, and_true, B_0, B_1, not_true_eq_false, not_false_eq_true, eq_self, Option.bind_some, hs, hs1, b0, b1, c1, c2, gCat_nil]

theorem k2 {nat : gNat} {t : Int} {w : gWd} {i : Int} (hi : 0 ≤ i ∧ i < 1000) (ht0 : 0 ≤ t) (ht : t ≤ 900) (hW : lawW t w) : ∃ w', gX (gC gNatNo 30) nat 193 196 [some (.ref gSCR), some (.ref 0), some (.ref 96), some (.int (J i))] [] [] w = gX (gC gNatNo 30) nat 193 894 [some (.ref gSCR), some (.ref 0), some (.ref 96), some (.int (J i))] [] [] w' ∧ lawW (t + 1) w' := by
  obtain ⟨p, q, X, K, S, PT, KT, M, hX, hM, hs, hz, hI⟩ := hW
  obtain ⟨iR, hK, hkk, ⟨hS, hH⟩, iP, iKp, iE, iT, hL, hR, ⟨m0, m3, m4, m5, m6⟩⟩ := id hI
  have s0 := hS.1
  have hH' : 0 ≤ S 0 0 ∧ S 0 0 < 1000000 := ⟨s0, by omega⟩
  have hx : 96 + 12 < gSTR := by decide
  have b0 := o0 hX
  have b96 := o96 hM
  obtain ⟨Q, hQ⟩ := hX.2.2.2.2.1
  obtain ⟨w1, c1, x1, -, x2, x3⟩ := x78 (nat := gNatNo) (d := 5) (w := w) hX hK hS hH' iR.1 iR.2.1 hQ
  rw [show (5 : Nat) + 25 = 30 from rfl] at c1
  have hM1 := putM_tr hM x2
  have b1 := o96 hM1
  have hs1 : rd w1 gSCR = none := by rw [x2 _ (by decide)]; exact hs
  obtain ⟨M', c2, g2⟩ := z136 (nat := gNatNo) (d := 23) (w := w1) (x := 96) (M := M) hx hI (by omega) Q
  rw [← hM1, show (23 : Nat) + 7 = 30 from rfl] at c2
  refine ⟨putM w1 96 M', ?_, pair_ok x1 x2 hs hz x3 (stI_mono g2 (by omega)) rfl⟩
  simp (disch := first | omega | exact Nat.le_of_ble_eq_true rfl) only [e193_196, e193_197, e193_200, e193_201, e193_204, e193_207, e193_208, J_add, J_sub, J_mul, J_neg, J_lt, J_le, gArr_J, gAst_J, gSiz_J, gFld_o, gUpd_o0, gUpd_o1, gUpd_o2, gUpd_o3, gUpd_o4, gUpd_o5, gUpd_o6, gUpd_o7, gUpd_o8, gUpd_o9, gUpd_o10, gUpd_o11, gUpd_o12, gUpd_o13, gUpd_o14, gUpd_o15, gUpd_o16, gUpd_o17, gUpd_o18, gIsO_o, Option.bind_some, List.getElem?_cons_zero, List.getElem?_cons_succ, List.length_cons, List.length_nil, List.set_cons_zero, List.set_cons_succ, gCat_nil, gCat_int, gCat_ref, if_pos, if_neg, Option.toList_some, Option.toList_none, List.cons_append, List.nil_append, B_nar, J1_nar, J0_nar, if_true, if_false, rd_wr_same, rd_wr_ne, true_and, and_true, B_0, B_1, not_true_eq_false, not_false_eq_true, eq_self, Option.bind_some, hs, hs1, b0, b1, c1, c2, gCat_nil]

theorem k3 {nat : gNat} {t : Int} {w : gWd} {i : Int} (hi : 0 ≤ i ∧ i < 1000) (ht0 : 0 ≤ t) (ht : t ≤ 900) (hW : lawW t w) : ∃ w', gX (gC gNatNo 30) nat 193 209 [some (.ref gSCR), some (.ref 0), some (.ref 96), some (.int (J i))] [] [] w = gX (gC gNatNo 30) nat 193 894 [some (.ref gSCR), some (.ref 0), some (.ref 96), some (.int (J i))] [] [] w' ∧ lawW (t + 1) w' := by
  obtain ⟨p, q, X, K, S, PT, KT, M, hX, hM, hs, hz, hI⟩ := hW
  obtain ⟨iR, hK, hkk, ⟨hS, hH⟩, iP, iKp, iE, iT, hL, hR, ⟨m0, m3, m4, m5, m6⟩⟩ := id hI
  have s0 := hS.1
  have hH' : 0 ≤ S 0 0 ∧ S 0 0 < 1000000 := ⟨s0, by omega⟩
  have hx : 96 + 12 < gSTR := by decide
  have b0 := o0 hX
  have b96 := o96 hM
  obtain ⟨Q, hQ⟩ := hX.2.2.2.2.1
  obtain ⟨w1, c1, x1, x2, x3⟩ := x79 (nat := gNatNo) (d := 5) (w := w) hX hK hS hH' iR.1 iR.2.1 hQ
  rw [show (5 : Nat) + 25 = 30 from rfl] at c1
  have hM1 := putM_tr hM x2
  have b1 := o96 hM1
  have hs1 : rd w1 gSCR = none := by rw [x2 _ (by decide)]; exact hs
  obtain ⟨M', c2, g2⟩ := z137 (nat := gNatNo) (d := 22) (w := w1) (x := 96) (M := M) hx hI (by omega) Q
  rw [← hM1, show (22 : Nat) + 8 = 30 from rfl] at c2
  refine ⟨putM w1 96 M', ?_, pair_ok x1 x2 hs hz x3 (stI_mono g2 (by omega)) rfl⟩
  simp (disch := first | omega | exact Nat.le_of_ble_eq_true rfl) only [e193_209, e193_210, e193_213, e193_214, e193_217, e193_220, e193_221, J_add, J_sub, J_mul, J_neg, J_lt, J_le, gArr_J, gAst_J, gSiz_J, gFld_o, gUpd_o0, gUpd_o1, gUpd_o2, gUpd_o3, gUpd_o4, gUpd_o5, gUpd_o6, gUpd_o7, gUpd_o8, gUpd_o9, gUpd_o10, gUpd_o11, gUpd_o12, gUpd_o13, gUpd_o14, gUpd_o15, gUpd_o16, gUpd_o17, gUpd_o18, gIsO_o, Option.bind_some, List.getElem?_cons_zero, List.getElem?_cons_succ, List.length_cons, List.length_nil, List.set_cons_zero, List.set_cons_succ, gCat_nil, gCat_int, gCat_ref, if_pos, if_neg, Option.toList_some, Option.toList_none, List.cons_append, List.nil_append, B_nar, J1_nar, J0_nar, if_true, if_false, rd_wr_same, rd_wr_ne, true_and, and_true, B_0, B_1, not_true_eq_false, not_false_eq_true, eq_self, Option.bind_some, hs, hs1, b0, b1, c1, c2, gCat_nil]

theorem k4 {nat : gNat} {t : Int} {w : gWd} {i : Int} (hi : 0 ≤ i ∧ i < 1000) (ht0 : 0 ≤ t) (ht : t ≤ 900) (hW : lawW t w) {a1 : Int} (h_a1 : -2147483648 ≤ a1 ∧ a1 < 2147483648) (n1 : nat.1 13 [.int (J (i + 1))] = some (.int (J a1))) {a2 : Int} (h_a2 : -2147483648 ≤ a2 ∧ a2 < 2147483648) (n2 : nat.1 13 [.int (J (i + 2))] = some (.int (J a2))) : ∃ w', gX (gC gNatNo 30) nat 193 222 [some (.ref gSCR), some (.ref 0), some (.ref 96), some (.int (J i))] [] [] w = gX (gC gNatNo 30) nat 193 894 [some (.ref gSCR), some (.ref 0), some (.ref 96), some (.int (J i))] [] [] w' ∧ lawW (t + 1) w' := by
  obtain ⟨p, q, X, K, S, PT, KT, M, hX, hM, hs, hz, hI⟩ := hW
  obtain ⟨iR, hK, hkk, ⟨hS, hH⟩, iP, iKp, iE, iT, hL, hR, ⟨m0, m3, m4, m5, m6⟩⟩ := id hI
  have s0 := hS.1
  have hH' : 0 ≤ S 0 0 ∧ S 0 0 < 1000000 := ⟨s0, by omega⟩
  have hx : 96 + 12 < gSTR := by decide
  have b0 := o0 hX
  have b96 := o96 hM
  have c1 := x80 (nat := gNatNo) (d := 5) (w := w) hX hK hS hH' h_a1 h_a2
  rw [show (5 : Nat) + 25 = 30 from rfl] at c1
  have c2 := y150 (nat := gNatNo) (d := 26) (w := w) (x := 96) (M := M) hx hL hK hR hS h_a1 h_a2
  rw [← hM, show (26 : Nat) + 4 = 30 from rfl] at c2
  refine ⟨w, ?_, pair_ok hX (fun z _ => rfl) hs hz rfl (stI_mono hI (by omega)) hM⟩
  simp (disch := first | omega | exact Nat.le_of_ble_eq_true rfl) only [e193_222, e193_223, e193_224, e193_225, e193_226, e193_227, e193_228, e193_229, e193_230, e193_231, e193_232, e193_233, e193_236, e193_237, e193_238, e193_239, e193_240, e193_241, e193_242, e193_243, e193_244, e193_245, e193_246, e193_247, e193_250, e193_253, e193_254, J_add, J_sub, J_mul, J_neg, J_lt, J_le, gArr_J, gAst_J, gSiz_J, gFld_o, gUpd_o0, gUpd_o1, gUpd_o2, gUpd_o3, gUpd_o4, gUpd_o5, gUpd_o6, gUpd_o7, gUpd_o8, gUpd_o9, gUpd_o10, gUpd_o11, gUpd_o12, gUpd_o13, gUpd_o14, gUpd_o15, gUpd_o16, gUpd_o17, gUpd_o18, gIsO_o, Option.bind_some, List.getElem?_cons_zero, List.getElem?_cons_succ, List.length_cons, List.length_nil, List.set_cons_zero, List.set_cons_succ, gCat_nil, gCat_int, gCat_ref, if_pos, if_neg, Option.toList_some, Option.toList_none, List.cons_append, List.nil_append, B_nar, J1_nar, J0_nar, if_true, if_false, rd_wr_same, rd_wr_ne, true_and, and_true, B_0, B_1, not_true_eq_false, not_false_eq_true, eq_self, Option.bind_some, hs, b0, b96, c1, c2, gCat_nil, n1, n2]

theorem k5 {nat : gNat} {t : Int} {w : gWd} {i : Int} (hi : 0 ≤ i ∧ i < 1000) (ht0 : 0 ≤ t) (ht : t ≤ 900) (hW : lawW t w) {a1 : Int} (h_a1 : -2147483648 ≤ a1 ∧ a1 < 2147483648) (n1 : nat.1 13 [.int (J (i + 1))] = some (.int (J a1))) {a2 : Int} (h_a2 : -2147483648 ≤ a2 ∧ a2 < 2147483648) (n2 : nat.1 13 [.int (J (i + 2))] = some (.int (J a2))) : ∃ w', gX (gC gNatNo 30) nat 193 255 [some (.ref gSCR), some (.ref 0), some (.ref 96), some (.int (J i))] [] [] w = gX (gC gNatNo 30) nat 193 894 [some (.ref gSCR), some (.ref 0), some (.ref 96), some (.int (J i))] [] [] w' ∧ lawW (t + 1) w' := by
  obtain ⟨p, q, X, K, S, PT, KT, M, hX, hM, hs, hz, hI⟩ := hW
  obtain ⟨iR, hK, hkk, ⟨hS, hH⟩, iP, iKp, iE, iT, hL, hR, ⟨m0, m3, m4, m5, m6⟩⟩ := id hI
  have s0 := hS.1
  have hH' : 0 ≤ S 0 0 ∧ S 0 0 < 1000000 := ⟨s0, by omega⟩
  have hx : 96 + 12 < gSTR := by decide
  have b0 := o0 hX
  have b96 := o96 hM
  have c1 := x81 (nat := gNatNo) (d := 5) (w := w) hX hK hS hH' h_a1 h_a2
  rw [show (5 : Nat) + 25 = 30 from rfl] at c1
  have c2 := y151 (nat := gNatNo) (d := 26) (w := w) (x := 96) (M := M) hx hL hK hR hS h_a1 h_a2
  rw [← hM, show (26 : Nat) + 4 = 30 from rfl] at c2
  refine ⟨w, ?_, pair_ok hX (fun z _ => rfl) hs hz rfl (stI_mono hI (by omega)) hM⟩
  simp (disch := first | omega | exact Nat.le_of_ble_eq_true rfl) only [e193_255, e193_256, e193_257, e193_258, e193_259, e193_260, e193_261, e193_262, e193_263, e193_264, e193_265, e193_266, e193_269, e193_270, e193_271, e193_272, e193_273, e193_274, e193_275, e193_276, e193_277, e193_278, e193_279, e193_280, e193_283, e193_286, e193_287, J_add, J_sub, J_mul, J_neg, J_lt, J_le, gArr_J, gAst_J, gSiz_J, gFld_o, gUpd_o0, gUpd_o1, gUpd_o2, gUpd_o3, gUpd_o4, gUpd_o5, gUpd_o6, gUpd_o7, gUpd_o8, gUpd_o9, gUpd_o10, gUpd_o11, gUpd_o12, gUpd_o13, gUpd_o14, gUpd_o15, gUpd_o16, gUpd_o17, gUpd_o18, gIsO_o, Option.bind_some, List.getElem?_cons_zero, List.getElem?_cons_succ, List.length_cons, List.length_nil, List.set_cons_zero, List.set_cons_succ, gCat_nil, gCat_int, gCat_ref, if_pos, if_neg, Option.toList_some, Option.toList_none, List.cons_append, List.nil_append, B_nar, J1_nar, J0_nar, if_true, if_false, rd_wr_same, rd_wr_ne, true_and, and_true, B_0, B_1, not_true_eq_false, not_false_eq_true, eq_self, Option.bind_some, hs, b0, b96, c1, c2, gCat_nil, n1, n2]

theorem k6 {nat : gNat} {t : Int} {w : gWd} {i : Int} (hi : 0 ≤ i ∧ i < 1000) (ht0 : 0 ≤ t) (ht : t ≤ 900) (hW : lawW t w) {a1 : Int} (h_a1 : -2147483648 ≤ a1 ∧ a1 < 2147483648) (n1 : nat.1 13 [.int (J (i + 1))] = some (.int (J a1))) {a2 : Int} (h_a2 : -2147483648 ≤ a2 ∧ a2 < 2147483648) (n2 : nat.1 13 [.int (J (i + 2))] = some (.int (J a2))) : ∃ w', gX (gC gNatNo 30) nat 193 288 [some (.ref gSCR), some (.ref 0), some (.ref 96), some (.int (J i))] [] [] w = gX (gC gNatNo 30) nat 193 894 [some (.ref gSCR), some (.ref 0), some (.ref 96), some (.int (J i))] [] [] w' ∧ lawW (t + 1) w' := by
  obtain ⟨p, q, X, K, S, PT, KT, M, hX, hM, hs, hz, hI⟩ := hW
  obtain ⟨iR, hK, hkk, ⟨hS, hH⟩, iP, iKp, iE, iT, hL, hR, ⟨m0, m3, m4, m5, m6⟩⟩ := id hI
  have s0 := hS.1
  have hH' : 0 ≤ S 0 0 ∧ S 0 0 < 1000000 := ⟨s0, by omega⟩
  have hx : 96 + 12 < gSTR := by decide
  have b0 := o0 hX
  have b96 := o96 hM
  have c1 := x82 (nat := gNatNo) (d := 5) (w := w) hX hK hS hH' h_a1 h_a2
  rw [show (5 : Nat) + 25 = 30 from rfl] at c1
  have c2 := y152 (nat := gNatNo) (d := 26) (w := w) (x := 96) (M := M) hx hL hK hR hS hH' h_a1 h_a2
  rw [← hM, show (26 : Nat) + 4 = 30 from rfl] at c2
  refine ⟨w, ?_, pair_ok hX (fun z _ => rfl) hs hz rfl (stI_mono hI (by omega)) hM⟩
  simp (disch := first | omega | exact Nat.le_of_ble_eq_true rfl) only [e193_288, e193_289, e193_290, e193_291, e193_292, e193_293, e193_294, e193_295, e193_296, e193_297, e193_298, e193_299, e193_302, e193_303, e193_304, e193_305, e193_306, e193_307, e193_308, e193_309, e193_310, e193_311, e193_312, e193_313, e193_316, e193_319, e193_320, J_add, J_sub, J_mul, J_neg, J_lt, J_le, gArr_J, gAst_J, gSiz_J, gFld_o, gUpd_o0, gUpd_o1, gUpd_o2, gUpd_o3, gUpd_o4, gUpd_o5, gUpd_o6, gUpd_o7, gUpd_o8, gUpd_o9, gUpd_o10, gUpd_o11, gUpd_o12, gUpd_o13, gUpd_o14, gUpd_o15, gUpd_o16, gUpd_o17, gUpd_o18, gIsO_o, Option.bind_some, List.getElem?_cons_zero, List.getElem?_cons_succ, List.length_cons, List.length_nil, List.set_cons_zero, List.set_cons_succ, gCat_nil, gCat_int, gCat_ref, if_pos, if_neg, Option.toList_some, Option.toList_none, List.cons_append, List.nil_append, B_nar, J1_nar, J0_nar, if_true, if_false, rd_wr_same, rd_wr_ne, true_and, and_true, B_0, B_1, not_true_eq_false, not_false_eq_true, eq_self, Option.bind_some, hs, b0, b96, c1, c2, gCat_nil, n1, n2]

theorem k7 {nat : gNat} {t : Int} {w : gWd} {i : Int} (hi : 0 ≤ i ∧ i < 1000) (ht0 : 0 ≤ t) (ht : t ≤ 900) (hW : lawW t w) {a1 : Int} (h_a1 : -2147483648 ≤ a1 ∧ a1 < 2147483648) (n1 : nat.1 13 [.int (J (i + 1))] = some (.int (J a1))) {a2 : Int} (h_a2 : -2147483648 ≤ a2 ∧ a2 < 2147483648) (n2 : nat.1 13 [.int (J (i + 2))] = some (.int (J a2))) : ∃ w', gX (gC gNatNo 30) nat 193 321 [some (.ref gSCR), some (.ref 0), some (.ref 96), some (.int (J i))] [] [] w = gX (gC gNatNo 30) nat 193 894 [some (.ref gSCR), some (.ref 0), some (.ref 96), some (.int (J i))] [] [] w' ∧ lawW (t + 1) w' := by
  obtain ⟨p, q, X, K, S, PT, KT, M, hX, hM, hs, hz, hI⟩ := hW
  obtain ⟨iR, hK, hkk, ⟨hS, hH⟩, iP, iKp, iE, iT, hL, hR, ⟨m0, m3, m4, m5, m6⟩⟩ := id hI
  have s0 := hS.1
  have hH' : 0 ≤ S 0 0 ∧ S 0 0 < 1000000 := ⟨s0, by omega⟩
  have hx : 96 + 12 < gSTR := by decide
  have b0 := o0 hX
  have b96 := o96 hM
  obtain ⟨w1, c1, x1, x2, x3⟩ := x83 (nat := gNatNo) (d := 5) (w := w) hX hK hS hH' h_a1 h_a2
  rw [show (5 : Nat) + 25 = 30 from rfl] at c1
  have hM1 := putM_tr hM x2
  have b1 := o96 hM1
  have hs1 : rd w1 gSCR = none := by rw [x2 _ (by decide)]; exact hs
  have c2 := y157 (nat := gNatNo) (d := 26) (w := w1) (x := 96) (M := M) hx hL hK hR hS h_a1 h_a2
  rw [← hM1, show (26 : Nat) + 4 = 30 from rfl] at c2
  refine ⟨w1, ?_, pair_ok x1 x2 hs hz x3 (stI_mono hI (by omega)) hM1⟩
  simp (disch := first | omega | exact Nat.le_of_ble_eq_true rfl) only [e193_321, e193_322, e193_323, e193_324, e193_325, e193_326, e193_327, e193_328, e193_329, e193_330, e193_331, e193_332, e193_335, e193_336, e193_337, e193_338, e193_339, e193_340, e193_341, e193_342, e193_343, e193_344, e193_345, e193_346, e193_349, e193_352, e193_353, J_add, J_sub, J_mul, J_neg, J_lt, J_le, gArr_J, gAst_J, gSiz_J, gFld_o, gUpd_o0, gUpd_o1, gUpd_o2, gUpd_o3, gUpd_o4, gUpd_o5, gUpd_o6, gUpd_o7, gUpd_o8, gUpd_o9, gUpd_o10, gUpd_o11, gUpd_o12, gUpd_o13, gUpd_o14, gUpd_o15, gUpd_o16, gUpd_o17, gUpd_o18, gIsO_o, Option.bind_some, List.getElem?_cons_zero, List.getElem?_cons_succ, List.length_cons, List.length_nil, List.set_cons_zero, List.set_cons_succ, gCat_nil, gCat_int, gCat_ref, if_pos, if_neg, Option.toList_some, Option.toList_none, List.cons_append, List.nil_append, B_nar, J1_nar, J0_nar, if_true, if_false, rd_wr_same, rd_wr_ne, true_and, and_true, B_0, B_1, not_true_eq_false, not_false_eq_true, eq_self, Option.bind_some, hs, hs1, b0, b1, c1, c2, gCat_nil, n1, n2]

theorem k8 {nat : gNat} {t : Int} {w : gWd} {i : Int} (hi : 0 ≤ i ∧ i < 1000) (ht0 : 0 ≤ t) (ht : t ≤ 900) (hW : lawW t w) {a1 : Int} (h_a1 : -2147483648 ≤ a1 ∧ a1 < 2147483648) (n1 : nat.1 13 [.int (J (i + 1))] = some (.int (J a1))) {a2 : Int} (h_a2 : -2147483648 ≤ a2 ∧ a2 < 2147483648) (n2 : nat.1 13 [.int (J (i + 2))] = some (.int (J a2))) : ∃ w', gX (gC gNatNo 30) nat 193 354 [some (.ref gSCR), some (.ref 0), some (.ref 96), some (.int (J i))] [] [] w = gX (gC gNatNo 30) nat 193 894 [some (.ref gSCR), some (.ref 0), some (.ref 96), some (.int (J i))] [] [] w' ∧ lawW (t + 1) w' := by
  obtain ⟨p, q, X, K, S, PT, KT, M, hX, hM, hs, hz, hI⟩ := hW
  obtain ⟨iR, hK, hkk, ⟨hS, hH⟩, iP, iKp, iE, iT, hL, hR, ⟨m0, m3, m4, m5, m6⟩⟩ := id hI
  have s0 := hS.1
  have hH' : 0 ≤ S 0 0 ∧ S 0 0 < 1000000 := ⟨s0, by omega⟩
  have hx : 96 + 12 < gSTR := by decide
  have b0 := o0 hX
  have b96 := o96 hM
  obtain ⟨w1, c1, x1, x2, x3⟩ := x84 (nat := gNatNo) (d := 5) (w := w) hX hK hS hH' iR h_a1 h_a2
  rw [show (5 : Nat) + 25 = 30 from rfl] at c1
  have hM1 := putM_tr hM x2
  have b1 := o96 hM1
  have hs1 : rd w1 gSCR = none := by rw [x2 _ (by decide)]; exact hs
  obtain ⟨M', c2, g2⟩ := z160 (nat := gNatNo) (d := 25) (w := w1) (x := 96) (M := M) hx hI (by omega) h_a1 h_a2
  rw [← hM1, show (25 : Nat) + 5 = 30 from rfl] at c2
  refine ⟨putM w1 96 M', ?_, pair_ok x1 x2 hs hz x3 (stI_mono g2 (by omega)) rfl⟩
  simp (disch := first | omega | exact Nat.le_of_ble_eq_true rfl) only [e193_354, e193_355, e193_356, e193_357, e193_358, e193_359, e193_360, e193_361, e193_362, e193_363, e193_364, e193_365, e193_368, e193_369, e193_370, e193_371, e193_372, e193_373, e193_374, e193_375, e193_376, e193_377, e193_378, e193_379, e193_382, e193_385, e193_386, J_add, J_sub, J_mul, J_neg, J_lt, J_le, gArr_J, gAst_J, gSiz_J, gFld_o, gUpd_o0, gUpd_o1, gUpd_o2, gUpd_o3, gUpd_o4, gUpd_o5, gUpd_o6, gUpd_o7, gUpd_o8, gUpd_o9, gUpd_o10, gUpd_o11, gUpd_o12, gUpd_o13, gUpd_o14, gUpd_o15, gUpd_o16, gUpd_o17, gUpd_o18, gIsO_o, Option.bind_some, List.getElem?_cons_zero, List.getElem?_cons_succ, List.length_cons, List.length_nil, List.set_cons_zero, List.set_cons_succ, gCat_nil, gCat_int, gCat_ref, if_pos, if_neg, Option.toList_some, Option.toList_none, List.cons_append, List.nil_append, B_nar, J1_nar, J0_nar, if_true, if_false, rd_wr_same, rd_wr_ne, true_and, and_true, B_0, B_1, not_true_eq_false, not_false_eq_true, eq_self, Option.bind_some, hs, hs1, b0, b1, c1, c2, gCat_nil, n1, n2]

theorem k9 {nat : gNat} {t : Int} {w : gWd} {i : Int} (hi : 0 ≤ i ∧ i < 1000) (ht0 : 0 ≤ t) (ht : t ≤ 900) (hW : lawW t w) {a1 : Int} (h_a1 : -2147483648 ≤ a1 ∧ a1 < 2147483648) (n1 : nat.1 13 [.int (J (i + 1))] = some (.int (J a1))) : ∃ w', gX (gC gNatNo 30) nat 193 387 [some (.ref gSCR), some (.ref 0), some (.ref 96), some (.int (J i))] [] [] w = gX (gC gNatNo 30) nat 193 894 [some (.ref gSCR), some (.ref 0), some (.ref 96), some (.int (J i))] [] [] w' ∧ lawW (t + 1) w' := by
  obtain ⟨p, q, X, K, S, PT, KT, M, hX, hM, hs, hz, hI⟩ := hW
  obtain ⟨iR, hK, hkk, ⟨hS, hH⟩, iP, iKp, iE, iT, hL, hR, ⟨m0, m3, m4, m5, m6⟩⟩ := id hI
  have s0 := hS.1
  have hH' : 0 ≤ S 0 0 ∧ S 0 0 < 1000000 := ⟨s0, by omega⟩
  have hx : 96 + 12 < gSTR := by decide
  have b0 := o0 hX
  have b96 := o96 hM
  obtain ⟨w1, c1, x1, x2, x3⟩ := x85 (nat := gNatNo) (d := 5) (w := w) hX hK hS hH' iR h_a1
  rw [show (5 : Nat) + 25 = 30 from rfl] at c1
  have hM1 := putM_tr hM x2
  have b1 := o96 hM1
  have hs1 : rd w1 gSCR = none := by rw [x2 _ (by decide)]; exact hs
  obtain ⟨M', c2, g2⟩ := z161 (nat := gNatNo) (d := 24) (w := w1) (x := 96) (M := M) hx hI (by omega) h_a1
  rw [← hM1, show (24 : Nat) + 6 = 30 from rfl] at c2
  refine ⟨putM w1 96 M', ?_, pair_ok x1 x2 hs hz x3 (g2) rfl⟩
  simp (disch := first | omega | exact Nat.le_of_ble_eq_true rfl) only [e193_387, e193_388, e193_389, e193_390, e193_391, e193_392, e193_393, e193_396, e193_397, e193_398, e193_399, e193_400, e193_401, e193_402, e193_405, e193_408, e193_409, J_add, J_sub, J_mul, J_neg, J_lt, J_le, gArr_J, gAst_J, gSiz_J, gFld_o, gUpd_o0, gUpd_o1, gUpd_o2, gUpd_o3, gUpd_o4, gUpd_o5, gUpd_o6, gUpd_o7, gUpd_o8, gUpd_o9, gUpd_o10, gUpd_o11, gUpd_o12, gUpd_o13, gUpd_o14, gUpd_o15, gUpd_o16, gUpd_o17, gUpd_o18, gIsO_o, Option.bind_some, List.getElem?_cons_zero, List.getElem?_cons_succ, List.length_cons, List.length_nil, List.set_cons_zero, List.set_cons_succ, gCat_nil, gCat_int, gCat_ref, if_pos, if_neg, Option.toList_some, Option.toList_none, List.cons_append, List.nil_append, B_nar, J1_nar, J0_nar, if_true, if_false, rd_wr_same, rd_wr_ne, true_and, and_true, B_0, B_1, not_true_eq_false, not_false_eq_true, eq_self, Option.bind_some, hs, hs1, b0, b1, c1, c2, gCat_nil, n1]

theorem k10 {nat : gNat} {t : Int} {w : gWd} {i : Int} (hi : 0 ≤ i ∧ i < 1000) (ht0 : 0 ≤ t) (ht : t ≤ 900) (hW : lawW t w) {a1 : Int} (h_a1 : -2147483648 ≤ a1 ∧ a1 < 2147483648) (n1 : nat.1 13 [.int (J (i + 1))] = some (.int (J a1))) : ∃ w', gX (gC gNatNo 30) nat 193 410 [some (.ref gSCR), some (.ref 0), some (.ref 96), some (.int (J i))] [] [] w = gX (gC gNatNo 30) nat 193 894 [some (.ref gSCR), some (.ref 0), some (.ref 96), some (.int (J i))] [] [] w' ∧ lawW (t + 1) w' := by
  obtain ⟨p, q, X, K, S, PT, KT, M, hX, hM, hs, hz, hI⟩ := hW
  obtain ⟨iR, hK, hkk, ⟨hS, hH⟩, iP, iKp, iE, iT, hL, hR, ⟨m0, m3, m4, m5, m6⟩⟩ := id hI
  have s0 := hS.1
  have hH' : 0 ≤ S 0 0 ∧ S 0 0 < 1000000 := ⟨s0, by omega⟩
  have hx : 96 + 12 < gSTR := by decide
  have b0 := o0 hX
  have b96 := o96 hM
  obtain ⟨w1, c1, x1, x2, x3⟩ := x86 (nat := gNatNo) (d := 5) (w := w) hX hK hS hH' iR h_a1
  rw [show (5 : Nat) + 25 = 30 from rfl] at c1
  have hM1 := putM_tr hM x2
  have b1 := o96 hM1
  have hs1 : rd w1 gSCR = none := by rw [x2 _ (by decide)]; exact hs
  obtain ⟨M', c2, g2⟩ := z162 (nat := gNatNo) (d := 25) (w := w1) (x := 96) (M := M) hx hI (by omega) h_a1
  rw [← hM1, show (25 : Nat) + 5 = 30 from rfl] at c2
  refine ⟨putM w1 96 M', ?_, pair_ok x1 x2 hs hz x3 (stI_mono g2 (by omega)) rfl⟩
  simp (disch := first | omega | exact Nat.le_of_ble_eq_true rfl) only [e193_410, e193_411, e193_412, e193_413, e193_414, e193_415, e193_416, e193_419, e193_420, e193_421, e193_422, e193_423, e193_424, e193_425, e193_428, e193_431, e193_432, J_add, J_sub, J_mul, J_neg, J_lt, J_le, gArr_J, gAst_J, gSiz_J, gFld_o, gUpd_o0, gUpd_o1, gUpd_o2, gUpd_o3, gUpd_o4, gUpd_o5, gUpd_o6, gUpd_o7, gUpd_o8, gUpd_o9, gUpd_o10, gUpd_o11, gUpd_o12, gUpd_o13, gUpd_o14, gUpd_o15, gUpd_o16, gUpd_o17, gUpd_o18, gIsO_o, Option.bind_some, List.getElem?_cons_zero, List.getElem?_cons_succ, List.length_cons, List.length_nil, List.set_cons_zero, List.set_cons_succ, gCat_nil, gCat_int, gCat_ref, if_pos, if_neg, Option.toList_some, Option.toList_none, List.cons_append, List.nil_append, B_nar, J1_nar, J0_nar, if_true, if_false, rd_wr_same, rd_wr_ne, true_and, and_true, B_0, B_1, not_true_eq_false, not_false_eq_true, eq_self, Option.bind_some, hs, hs1, b0, b1, c1, c2, gCat_nil, n1]

theorem k11 {nat : gNat} {t : Int} {w : gWd} {i : Int} (hi : 0 ≤ i ∧ i < 1000) (ht0 : 0 ≤ t) (ht : t ≤ 900) (hW : lawW t w) : ∃ w', gX (gC gNatNo 30) nat 193 433 [some (.ref gSCR), some (.ref 0), some (.ref 96), some (.int (J i))] [] [] w = gX (gC gNatNo 30) nat 193 894 [some (.ref gSCR), some (.ref 0), some (.ref 96), some (.int (J i))] [] [] w' ∧ lawW (t + 1) w' := by
  obtain ⟨p, q, X, K, S, PT, KT, M, hX, hM, hs, hz, hI⟩ := hW
  obtain ⟨iR, hK, hkk, ⟨hS, hH⟩, iP, iKp, iE, iT, hL, hR, ⟨m0, m3, m4, m5, m6⟩⟩ := id hI
  have s0 := hS.1
  have hH' : 0 ≤ S 0 0 ∧ S 0 0 < 1000000 := ⟨s0, by omega⟩
  have hx : 96 + 12 < gSTR := by decide
  have b0 := o0 hX
  have b96 := o96 hM
  obtain ⟨w1, c1, x1, x2, x3⟩ := x87 (nat := gNatNo) (d := 5) (w := w) hX hK hS hH' iR
  rw [show (5 : Nat) + 25 = 30 from rfl] at c1
  have hM1 := putM_tr hM x2
  have b1 := o96 hM1
  have hs1 : rd w1 gSCR = none := by rw [x2 _ (by decide)]; exact hs
  obtain ⟨M', c2, g2⟩ := z163 (nat := gNatNo) (d := 26) (w := w1) (x := 96) (M := M) hx hI (by omega) 
  rw [← hM1, show (26 : Nat) + 4 = 30 from rfl] at c2
  refine ⟨putM w1 96 M', ?_, pair_ok x1 x2 hs hz x3 (stI_mono g2 (by omega)) rfl⟩
  simp (disch := first | omega | exact Nat.le_of_ble_eq_true rfl) only [e193_433, e193_434, e193_437, e193_438, e193_441, e193_444, e193_445, J_add, J_sub, J_mul, J_neg, J_lt, J_le, gArr_J, gAst_J, gSiz_J, gFld_o, gUpd_o0, gUpd_o1, gUpd_o2, gUpd_o3, gUpd_o4, gUpd_o5, gUpd_o6, gUpd_o7, gUpd_o8, gUpd_o9, gUpd_o10, gUpd_o11, gUpd_o12, gUpd_o13, gUpd_o14, gUpd_o15, gUpd_o16, gUpd_o17, gUpd_o18, gIsO_o, Option.bind_some, List.getElem?_cons_zero, List.getElem?_cons_succ, List.length_cons, List.length_nil, List.set_cons_zero, List.set_cons_succ, gCat_nil, gCat_int, gCat_ref, if_pos, if_neg, Option.toList_some, Option.toList_none, List.cons_append, List.nil_append, B_nar, J1_nar, J0_nar, if_true, if_false, rd_wr_same, rd_wr_ne, true_and, and_true, B_0, B_1, not_true_eq_false, not_false_eq_true, eq_self, Option.bind_some, hs, hs1, b0, b1, c1, c2, gCat_nil]

theorem k12 {nat : gNat} {t : Int} {w : gWd} {i : Int} (hi : 0 ≤ i ∧ i < 1000) (ht0 : 0 ≤ t) (ht : t ≤ 900) (hW : lawW t w) {a1 : Int} (h_a1 : -2147483648 ≤ a1 ∧ a1 < 2147483648) (n1 : nat.1 13 [.int (J (i + 1))] = some (.int (J a1))) : ∃ w', gX (gC gNatNo 30) nat 193 446 [some (.ref gSCR), some (.ref 0), some (.ref 96), some (.int (J i))] [] [] w = gX (gC gNatNo 30) nat 193 894 [some (.ref gSCR), some (.ref 0), some (.ref 96), some (.int (J i))] [] [] w' ∧ lawW (t + 1) w' := by
  obtain ⟨p, q, X, K, S, PT, KT, M, hX, hM, hs, hz, hI⟩ := hW
  obtain ⟨iR, hK, hkk, ⟨hS, hH⟩, iP, iKp, iE, iT, hL, hR, ⟨m0, m3, m4, m5, m6⟩⟩ := id hI
  have s0 := hS.1
  have hH' : 0 ≤ S 0 0 ∧ S 0 0 < 1000000 := ⟨s0, by omega⟩
  have hx : 96 + 12 < gSTR := by decide
  have b0 := o0 hX
  have b96 := o96 hM
  obtain ⟨w1, c1, x1, x2, x3⟩ := x88 (nat := gNatNo) (d := 5) (w := w) hX hK hS hH' h_a1
  rw [show (5 : Nat) + 25 = 30 from rfl] at c1
  have hM1 := putM_tr hM x2
  have b1 := o96 hM1
  have hs1 : rd w1 gSCR = none := by rw [x2 _ (by decide)]; exact hs
  obtain ⟨f', c2⟩ := y165 (nat := gNatNo) (d := 24) (w := w1) (x := 96) (M := M) hx hL hK hR hS hH' h_a1
  rw [← hM1, show (24 : Nat) + 6 = 30 from rfl] at c2
  refine ⟨putM w1 96 (rset M 7 f'), ?_, pair_ok x1 x2 hs hz x3 (stI_mono (stI_7 hI (Or.inl rfl)) (by omega)) rfl⟩
  simp (disch := first | omega | exact Nat.le_of_ble_eq_true rfl) only [e193_446, e193_447, e193_448, e193_449, e193_450, e193_451, e193_452, e193_455, e193_456, e193_457, e193_458, e193_459, e193_460, e193_461, e193_464, e193_467, e193_468, J_add, J_sub, J_mul, J_neg, J_lt, J_le, gArr_J, gAst_J, gSiz_J, gFld_o, gUpd_o0, gUpd_o1, gUpd_o2, gUpd_o3, gUpd_o4, gUpd_o5, gUpd_o6, gUpd_o7, gUpd_o8, gUpd_o9, gUpd_o10, gUpd_o11, gUpd_o12, gUpd_o13, gUpd_o14, gUpd_o15, gUpd_o16, gUpd_o17, gUpd_o18, gIsO_o, Option.bind_some, List.getElem?_cons_zero, List.getElem?_cons_succ, List.length_cons, List.length_nil, List.set_cons_zero, List.set_cons_succ, gCat_nil, gCat_int, gCat_ref, if_pos, if_neg, Option.toList_some, Option.toList_none, List.cons_append, List.nil_append, B_nar, J1_nar, J0_nar, if_true, if_false, rd_wr_same, rd_wr_ne, true_and, and_true, B_0, B_1, not_true_eq_false, not_false_eq_true, eq_self, Option.bind_some, hs, hs1, b0, b1, c1, c2, gCat_nil, n1]

theorem k13 {nat : gNat} {t : Int} {w : gWd} {i : Int} (hi : 0 ≤ i ∧ i < 1000) (ht0 : 0 ≤ t) (ht : t ≤ 900) (hW : lawW t w) : ∃ w', gX (gC gNatNo 30) nat 193 469 [some (.ref gSCR), some (.ref 0), some (.ref 96), some (.int (J i))] [] [] w = gX (gC gNatNo 30) nat 193 894 [some (.ref gSCR), some (.ref 0), some (.ref 96), some (.int (J i))] [] [] w' ∧ lawW (t + 1) w' := by
  obtain ⟨p, q, X, K, S, PT, KT, M, hX, hM, hs, hz, hI⟩ := hW
  obtain ⟨iR, hK, hkk, ⟨hS, hH⟩, iP, iKp, iE, iT, hL, hR, ⟨m0, m3, m4, m5, m6⟩⟩ := id hI
  have s0 := hS.1
  have hH' : 0 ≤ S 0 0 ∧ S 0 0 < 1000000 := ⟨s0, by omega⟩
  have hx : 96 + 12 < gSTR := by decide
  have b0 := o0 hX
  have b96 := o96 hM
  obtain ⟨w1, c1, x1, x2, x3⟩ := x89 (nat := gNatNo) (d := 5) (w := w) hX hK hS hH' 
  rw [show (5 : Nat) + 25 = 30 from rfl] at c1
  have hM1 := putM_tr hM x2
  have b1 := o96 hM1
  have hs1 : rd w1 gSCR = none := by rw [x2 _ (by decide)]; exact hs
  obtain ⟨f', c2⟩ := y166 (nat := gNatNo) (d := 24) (w := w1) (x := 96) (M := M) hx hL hK hR hS hH' 
  rw [← hM1, show (24 : Nat) + 6 = 30 from rfl] at c2
  refine ⟨putM w1 96 (rset M 7 f'), ?_, pair_ok x1 x2 hs hz x3 (stI_mono (stI_7 hI (Or.inl rfl)) (by omega)) rfl⟩
  simp (disch := first | omega | exact Nat.le_of_ble_eq_true rfl) only [e193_469, e193_470, e193_473, e193_474, e193_477, e193_480, e193_481, J_add, J_sub, J_mul, J_neg, J_lt, J_le, gArr_J, gAst_J, gSiz_J, gFld_o, gUpd_o0, gUpd_o1, gUpd_o2, gUpd_o3, gUpd_o4, gUpd_o5, gUpd_o6, gUpd_o7, gUpd_o8, gUpd_o9, gUpd_o10, gUpd_o11, gUpd_o12, gUpd_o13, gUpd_o14, gUpd_o15, gUpd_o16, gUpd_o17, gUpd_o18, gIsO_o, Option.bind_some, List.getElem?_cons_zero, List.getElem?_cons_succ, List.length_cons, List.length_nil, List.set_cons_zero, List.set_cons_succ, gCat_nil, gCat_int, gCat_ref, if_pos, if_neg, Option.toList_some, Option.toList_none, List.cons_append, List.nil_append, B_nar, J1_nar, J0_nar, if_true, if_false, rd_wr_same, rd_wr_ne, true_and, and_true, B_0, B_1, not_true_eq_false, not_false_eq_true, eq_self, Option.bind_some, hs, hs1, b0, b1, c1, c2, gCat_nil]

theorem k14 {nat : gNat} {t : Int} {w : gWd} {i : Int} (hi : 0 ≤ i ∧ i < 1000) (ht0 : 0 ≤ t) (ht : t ≤ 900) (hW : lawW t w) {a1 : Int} (h_a1 : -2147483648 ≤ a1 ∧ a1 < 2147483648) (n1 : nat.1 13 [.int (J (i + 1))] = some (.int (J a1))) {a2 : Int} (h_a2 : -2147483648 ≤ a2 ∧ a2 < 2147483648) (n2 : nat.1 13 [.int (J (i + 2))] = some (.int (J a2))) {a3 : Int} (h_a3 : -2147483648 ≤ a3 ∧ a3 < 2147483648) (n3 : nat.1 13 [.int (J (i + 3))] = some (.int (J a3))) : ∃ w', gX (gC gNatNo 30) nat 193 482 [some (.ref gSCR), some (.ref 0), some (.ref 96), some (.int (J i))] [] [] w = gX (gC gNatNo 30) nat 193 894 [some (.ref gSCR), some (.ref 0), some (.ref 96), some (.int (J i))] [] [] w' ∧ lawW (t + 1) w' := by
  obtain ⟨p, q, X, K, S, PT, KT, M, hX, hM, hs, hz, hI⟩ := hW
  obtain ⟨iR, hK, hkk, ⟨hS, hH⟩, iP, iKp, iE, iT, hL, hR, ⟨m0, m3, m4, m5, m6⟩⟩ := id hI
  have s0 := hS.1
  have hH' : 0 ≤ S 0 0 ∧ S 0 0 < 1000000 := ⟨s0, by omega⟩
  have hx : 96 + 12 < gSTR := by decide
  have b0 := o0 hX
  have b96 := o96 hM
  obtain ⟨w1, B0, c1, x1, x2, x3⟩ := x90 (nat := gNatNo) (d := 5) (w := w) hX hK hS hH' h_a1 h_a2 h_a3
  rw [show (5 : Nat) + 25 = 30 from rfl] at c1
  have hM1 := putM_tr hM x2
  have b1 := o96 hM1
  have hs1 : rd w1 gSCR = none := by rw [x2 _ (by decide)]; exact hs
  obtain ⟨f', c2⟩ := z170 (nat := gNatNo) (d := 23) (w := w1) (x := 96) (M := M) hx hL hK hR hS hH' h_a1 h_a2 h_a3 B0
  rw [← hM1, show (23 : Nat) + 7 = 30 from rfl] at c2
  refine ⟨putM w1 96 (rset M 7 f'), ?_, pair_ok x1 x2 hs hz x3 (stI_mono (stI_7 hI (Or.inl rfl)) (by omega)) rfl⟩
  simp (disch := first | omega | exact Nat.le_of_ble_eq_true rfl) only [e193_482, e193_483, e193_484, e193_485, e193_486, e193_487, e193_488, e193_489, e193_490, e193_491, e193_492, e193_493, e193_494, e193_495, e193_496, e193_497, e193_498, e193_501, e193_502, e193_503, e193_504, e193_505, e193_506, e193_507, e193_508, e193_509, e193_510, e193_511, e193_512, e193_513, e193_514, e193_515, e193_516, e193_517, e193_520, e193_523, e193_524, J_add, J_sub, J_mul, J_neg, J_lt, J_le, gArr_J, gAst_J, gSiz_J, gFld_o, gUpd_o0, gUpd_o1, gUpd_o2, gUpd_o3, gUpd_o4, gUpd_o5, gUpd_o6, gUpd_o7, gUpd_o8, gUpd_o9, gUpd_o10, gUpd_o11, gUpd_o12, gUpd_o13, gUpd_o14, gUpd_o15, gUpd_o16, gUpd_o17, gUpd_o18, gIsO_o, Option.bind_some, List.getElem?_cons_zero, List.getElem?_cons_succ, List.length_cons, List.length_nil, List.set_cons_zero, List.set_cons_succ, gCat_nil, gCat_int, gCat_ref, if_pos, if_neg, Option.toList_some, Option.toList_none, List.cons_append, List.nil_append, B_nar, J1_nar, J0_nar, if_true, if_false, rd_wr_same, rd_wr_ne, true_and, and_true, B_0, B_1, not_true_eq_false, not_false_eq_true, eq_self, Option.bind_some, hs, hs1, b0, b1, c1, c2, gCat_nil, n1, n2, n3]

theorem k15 {nat : gNat} {t : Int} {w : gWd} {i : Int} (hi : 0 ≤ i ∧ i < 1000) (ht0 : 0 ≤ t) (ht : t ≤ 900) (hW : lawW t w) {a1 : Int} (h_a1 : -2147483648 ≤ a1 ∧ a1 < 2147483648) (n1 : nat.1 13 [.int (J (i + 1))] = some (.int (J a1))) {a2 : Int} (h_a2 : -2147483648 ≤ a2 ∧ a2 < 2147483648) (n2 : nat.1 13 [.int (J (i + 2))] = some (.int (J a2))) : ∃ w', gX (gC gNatNo 30) nat 193 525 [some (.ref gSCR), some (.ref 0), some (.ref 96), some (.int (J i))] [] [] w = gX (gC gNatNo 30) nat 193 894 [some (.ref gSCR), some (.ref 0), some (.ref 96), some (.int (J i))] [] [] w' ∧ lawW (t + 1) w' := by
  obtain ⟨p, q, X, K, S, PT, KT, M, hX, hM, hs, hz, hI⟩ := hW
  obtain ⟨iR, hK, hkk, ⟨hS, hH⟩, iP, iKp, iE, iT, hL, hR, ⟨m0, m3, m4, m5, m6⟩⟩ := id hI
  have s0 := hS.1
  have hH' : 0 ≤ S 0 0 ∧ S 0 0 < 1000000 := ⟨s0, by omega⟩
  have hx : 96 + 12 < gSTR := by decide
  have b0 := o0 hX
  have b96 := o96 hM
  obtain ⟨w1, B0, c1, x1, x2, x3⟩ := x91 (nat := gNatNo) (d := 5) (w := w) hX hK hS hH' h_a1 h_a2
  rw [show (5 : Nat) + 25 = 30 from rfl] at c1
  have hM1 := putM_tr hM x2
  have b1 := o96 hM1
  have hs1 : rd w1 gSCR = none := by rw [x2 _ (by decide)]; exact hs
  obtain ⟨f', c2⟩ := z173 (nat := gNatNo) (d := 23) (w := w1) (x := 96) (M := M) hx hL hK hR hS hH' h_a1 h_a2 B0
  rw [← hM1, show (23 : Nat) + 7 = 30 from rfl] at c2
  refine ⟨putM w1 96 (rset M 7 f'), ?_, pair_ok x1 x2 hs hz x3 (stI_mono (stI_7 hI (Or.inl rfl)) (by omega)) rfl⟩
  simp (disch := first | omega | exact Nat.le_of_ble_eq_true rfl) only [e193_525, e193_526, e193_527, e193_528, e193_529, e193_530, e193_531, e193_532, e193_533, e193_534, e193_535, e193_536, e193_539, e193_540, e193_541, e193_542, e193_543, e193_544, e193_545, e193_546, e193_547, e193_548, e193_549, e193_550, e193_553, e193_556, e193_557, J_add, J_sub, J_mul, J_neg, J_lt, J_le, gArr_J, gAst_J, gSiz_J, gFld_o, gUpd_o0, gUpd_o1, gUpd_o2, gUpd_o3, gUpd_o4, gUpd_o5, gUpd_o6, gUpd_o7, gUpd_o8, gUpd_o9, gUpd_o10, gUpd_o11, gUpd_o12, gUpd_o13, gUpd_o14, gUpd_o15, gUpd_o16, gUpd_o17, gUpd_o18, gIsO_o, Option.bind_some, List.getElem?_cons_zero, List.getElem?_cons_succ, List.length_cons, List.length_nil, List.set_cons_zero, List.set_cons_succ, gCat_nil, gCat_int, gCat_ref, if_pos, if_neg, Option.toList_some, Option.toList_none, List.cons_append, List.nil_append, B_nar, J1_nar, J0_nar, if_true, if_false, rd_wr_same, rd_wr_ne, true_and, and_true, B_0, B_1, not_true_eq_false, not_false_eq_true, eq_self, Option.bind_some, hs, hs1, b0, b1, c1, c2, gCat_nil, n1, n2]

theorem k16 {nat : gNat} {t : Int} {w : gWd} {i : Int} (hi : 0 ≤ i ∧ i < 1000) (ht0 : 0 ≤ t) (ht : t ≤ 900) (hW : lawW t w) {a1 : Int} (h_a1 : -2147483648 ≤ a1 ∧ a1 < 2147483648) (n1 : nat.1 13 [.int (J (i + 1))] = some (.int (J a1))) {a2 : Int} (h_a2 : -2147483648 ≤ a2 ∧ a2 < 2147483648) (n2 : nat.1 13 [.int (J (i + 2))] = some (.int (J a2))) : ∃ w', gX (gC gNatNo 30) nat 193 558 [some (.ref gSCR), some (.ref 0), some (.ref 96), some (.int (J i))] [] [] w = gX (gC gNatNo 30) nat 193 894 [some (.ref gSCR), some (.ref 0), some (.ref 96), some (.int (J i))] [] [] w' ∧ lawW (t + 1) w' := by
  obtain ⟨p, q, X, K, S, PT, KT, M, hX, hM, hs, hz, hI⟩ := hW
  obtain ⟨iR, hK, hkk, ⟨hS, hH⟩, iP, iKp, iE, iT, hL, hR, ⟨m0, m3, m4, m5, m6⟩⟩ := id hI
  have s0 := hS.1
  have hH' : 0 ≤ S 0 0 ∧ S 0 0 < 1000000 := ⟨s0, by omega⟩
  have hx : 96 + 12 < gSTR := by decide
  have b0 := o0 hX
  have b96 := o96 hM
  obtain ⟨w1, c1, x1, x2, x3⟩ := x92 (nat := gNatNo) (d := 5) (w := w) hX hK hS hH' h_a1 h_a2
  rw [show (5 : Nat) + 25 = 30 from rfl] at c1
  have hM1 := putM_tr hM x2
  have b1 := o96 hM1
  have hs1 : rd w1 gSCR = none := by rw [x2 _ (by decide)]; exact hs
  have c2 := y174 (nat := gNatNo) (d := 26) (w := w1) (x := 96) (M := M) hx hL hK hR hS h_a1 h_a2
  rw [← hM1, show (26 : Nat) + 4 = 30 from rfl] at c2
  refine ⟨w1, ?_, pair_ok x1 x2 hs hz x3 (stI_mono hI (by omega)) hM1⟩
  simp (disch := first | omega | exact Nat.le_of_ble_eq_true rfl) only [e193_558, e193_559, e193_560, e193_561, e193_562, e193_563, e193_564, e193_565, e193_566, e193_567, e193_568, e193_569, e193_572, e193_573, e193_574, e193_575, e193_576, e193_577, e193_578, e193_579, e193_580, e193_581, e193_582, e193_583, e193_586, e193_589, e193_590, J_add, J_sub, J_mul, J_neg, J_lt, J_le, gArr_J, gAst_J, gSiz_J, gFld_o, gUpd_o0, gUpd_o1, gUpd_o2, gUpd_o3, gUpd_o4, gUpd_o5, gUpd_o6, gUpd_o7, gUpd_o8, gUpd_o9, gUpd_o10, gUpd_o11, gUpd_o12, gUpd_o13, gUpd_o14, gUpd_o15, gUpd_o16, gUpd_o17, gUpd_o18, gIsO_o, Option.bind_some, List.getElem?_cons_zero, List.getElem?_cons_succ, List.length_cons, List.length_nil, List.set_cons_zero, List.set_cons_succ, gCat_nil, gCat_int, gCat_ref, if_pos, if_neg, Option.toList_some, Option.toList_none, List.cons_append, List.nil_append, B_nar, J1_nar, J0_nar, if_true, if_false, rd_wr_same, rd_wr_ne, true_and, and_true, B_0, B_1, not_true_eq_false, not_false_eq_true, eq_self, Option.bind_some, hs, hs1, b0, b1, c1, c2, gCat_nil, n1, n2]

theorem k17 {nat : gNat} {t : Int} {w : gWd} {i : Int} (hi : 0 ≤ i ∧ i < 1000) (ht0 : 0 ≤ t) (ht : t ≤ 900) (hW : lawW t w) {a1 : Int} (h_a1 : -2147483648 ≤ a1 ∧ a1 < 2147483648) (n1 : nat.1 13 [.int (J (i + 1))] = some (.int (J a1))) {a2 : Int} (h_a2 : -2147483648 ≤ a2 ∧ a2 < 2147483648) (n2 : nat.1 13 [.int (J (i + 2))] = some (.int (J a2))) : ∃ w', gX (gC gNatNo 30) nat 193 591 [some (.ref gSCR), some (.ref 0), some (.ref 96), some (.int (J i))] [] [] w = gX (gC gNatNo 30) nat 193 894 [some (.ref gSCR), some (.ref 0), some (.ref 96), some (.int (J i))] [] [] w' ∧ lawW (t + 1) w' := by
  obtain ⟨p, q, X, K, S, PT, KT, M, hX, hM, hs, hz, hI⟩ := hW
  obtain ⟨iR, hK, hkk, ⟨hS, hH⟩, iP, iKp, iE, iT, hL, hR, ⟨m0, m3, m4, m5, m6⟩⟩ := id hI
  have s0 := hS.1
  have hH' : 0 ≤ S 0 0 ∧ S 0 0 < 1000000 := ⟨s0, by omega⟩
  have hx : 96 + 12 < gSTR := by decide
  have b0 := o0 hX
  have b96 := o96 hM
  have c1 := x93 (nat := gNatNo) (d := 5) (w := w) hX hK hS hH' h_a1 h_a2
  rw [show (5 : Nat) + 25 = 30 from rfl] at c1
  have c2 := y175 (nat := gNatNo) (d := 26) (w := w) (x := 96) (M := M) hx hL hK hR hS h_a1 h_a2
  rw [← hM, show (26 : Nat) + 4 = 30 from rfl] at c2
  refine ⟨w, ?_, pair_ok hX (fun z _ => rfl) hs hz rfl (stI_mono hI (by omega)) hM⟩
  simp (disch := first | omega | exact Nat.le_of_ble_eq_true rfl) only [e193_591, e193_592, e193_593, e193_594, e193_595, e193_596, e193_597, e193_598, e193_599, e193_600, e193_601, e193_602, e193_605, e193_606, e193_607, e193_608, e193_609, e193_610, e193_611, e193_612, e193_613, e193_614, e193_615, e193_616, e193_619, e193_622, e193_623, J_add, J_sub, J_mul, J_neg, J_lt, J_le, gArr_J, gAst_J, gSiz_J, gFld_o, gUpd_o0, gUpd_o1, gUpd_o2, gUpd_o3, gUpd_o4, gUpd_o5, gUpd_o6, gUpd_o7, gUpd_o8, gUpd_o9, gUpd_o10, gUpd_o11, gUpd_o12, gUpd_o13, gUpd_o14, gUpd_o15, gUpd_o16, gUpd_o17, gUpd_o18, gIsO_o, Option.bind_some, List.getElem?_cons_zero, List.getElem?_cons_succ, List.length_cons, List.length_nil, List.set_cons_zero, List.set_cons_succ, gCat_nil, gCat_int, gCat_ref, if_pos, if_neg, Option.toList_some, Option.toList_none, List.cons_append, List.nil_append, B_nar, J1_nar, J0_nar, if_true, if_false, rd_wr_same, rd_wr_ne, true_and, and_true, B_0, B_1, not_true_eq_false, not_false_eq_true, eq_self, Option.bind_some, hs, b0, b96, c1, c2, gCat_nil, n1, n2]

theorem k18 {nat : gNat} {t : Int} {w : gWd} {i : Int} (hi : 0 ≤ i ∧ i < 1000) (ht0 : 0 ≤ t) (ht : t ≤ 900) (hW : lawW t w) {a1 : Int} (h_a1 : -2147483648 ≤ a1 ∧ a1 < 2147483648) (n1 : nat.1 13 [.int (J (i + 1))] = some (.int (J a1))) : ∃ w', gX (gC gNatNo 30) nat 193 624 [some (.ref gSCR), some (.ref 0), some (.ref 96), some (.int (J i))] [] [] w = gX (gC gNatNo 30) nat 193 894 [some (.ref gSCR), some (.ref 0), some (.ref 96), some (.int (J i))] [] [] w' ∧ lawW (t + 1) w' := by
  obtain ⟨p, q, X, K, S, PT, KT, M, hX, hM, hs, hz, hI⟩ := hW
  obtain ⟨iR, hK, hkk, ⟨hS, hH⟩, iP, iKp, iE, iT, hL, hR, ⟨m0, m3, m4, m5, m6⟩⟩ := id hI
  have s0 := hS.1
  have hH' : 0 ≤ S 0 0 ∧ S 0 0 < 1000000 := ⟨s0, by omega⟩
  have hx : 96 + 12 < gSTR := by decide
  have b0 := o0 hX
  have b96 := o96 hM
  obtain ⟨w1, c1, x1, x2, x3⟩ := x94 (nat := gNatNo) (d := 5) (w := w) hX hK hS hH' h_a1
  rw [show (5 : Nat) + 25 = 30 from rfl] at c1
  have hM1 := putM_tr hM x2
  have b1 := o96 hM1
  have hs1 : rd w1 gSCR = none := by rw [x2 _ (by decide)]; exact hs
  have c2 := y176 (nat := gNatNo) (d := 25) (w := w1) (x := 96) (M := M) hx hL hK hR hS h_a1
  rw [← hM1, show (25 : Nat) + 5 = 30 from rfl] at c2
  refine ⟨w1, ?_, pair_ok x1 x2 hs hz x3 (stI_mono hI (by omega)) hM1⟩
  simp (disch := first | omega | exact Nat.le_of_ble_eq_true rfl) only [e193_624, e193_625, e193_626, e193_627, e193_628, e193_629, e193_630, e193_633, e193_634, e193_635, e193_636, e193_637, e193_638, e193_639, e193_642, e193_645, e193_646, J_add, J_sub, J_mul, J_neg, J_lt, J_le, gArr_J, gAst_J, gSiz_J, gFld_o, gUpd_o0, gUpd_o1, gUpd_o2, gUpd_o3, gUpd_o4, gUpd_o5, gUpd_o6, gUpd_o7, gUpd_o8, gUpd_o9, gUpd_o10, gUpd_o11, gUpd_o12, gUpd_o13, gUpd_o14, gUpd_o15, gUpd_o16, gUpd_o17, gUpd_o18, gIsO_o, Option.bind_some, List.getElem?_cons_zero, List.getElem?_cons_succ, List.length_cons, List.length_nil, List.set_cons_zero, List.set_cons_succ, gCat_nil, gCat_int, gCat_ref, if_pos, if_neg, Option.toList_some, Option.toList_none, List.cons_append, List.nil_append, B_nar, J1_nar, J0_nar, if_true, if_false, rd_wr_same, rd_wr_ne, true_and, and_true, B_0, B_1, not_true_eq_false, not_false_eq_true, eq_self, Option.bind_some, hs, hs1, b0, b1, c1, c2, gCat_nil, n1]

theorem k19 {nat : gNat} {t : Int} {w : gWd} {i : Int} (hi : 0 ≤ i ∧ i < 1000) (ht0 : 0 ≤ t) (ht : t ≤ 900) (hW : lawW t w) {a1 : Int} (h_a1 : -2147483648 ≤ a1 ∧ a1 < 2147483648) (n1 : nat.1 13 [.int (J (i + 1))] = some (.int (J a1))) {a2 : Int} (h_a2 : -2147483648 ≤ a2 ∧ a2 < 2147483648) (n2 : nat.1 13 [.int (J (i + 2))] = some (.int (J a2))) {a3 : Int} (h_a3 : -2147483648 ≤ a3 ∧ a3 < 2147483648) (n3 : nat.1 13 [.int (J (i + 3))] = some (.int (J a3))) : ∃ w', gX (gC gNatNo 30) nat 193 647 [some (.ref gSCR), some (.ref 0), some (.ref 96), some (.int (J i))] [] [] w = gX (gC gNatNo 30) nat 193 894 [some (.ref gSCR), some (.ref 0), some (.ref 96), some (.int (J i))] [] [] w' ∧ lawW (t + 1) w' := by
  obtain ⟨p, q, X, K, S, PT, KT, M, hX, hM, hs, hz, hI⟩ := hW
  obtain ⟨iR, hK, hkk, ⟨hS, hH⟩, iP, iKp, iE, iT, hL, hR, ⟨m0, m3, m4, m5, m6⟩⟩ := id hI
  have s0 := hS.1
  have hH' : 0 ≤ S 0 0 ∧ S 0 0 < 1000000 := ⟨s0, by omega⟩
  have hx : 96 + 12 < gSTR := by decide
  have b0 := o0 hX
  have b96 := o96 hM
  obtain ⟨w1, c1, x1, x2, x3⟩ := x95 (nat := gNatNo) (d := 5) (w := w) hX hK hS hH' iR h_a1 h_a2 h_a3
  rw [show (5 : Nat) + 25 = 30 from rfl] at c1
  have hM1 := putM_tr hM x2
  have b1 := o96 hM1
  have hs1 : rd w1 gSCR = none := by rw [x2 _ (by decide)]; exact hs
  obtain ⟨M', c2, g2⟩ := z177 (nat := gNatNo) (d := 25) (w := w1) (x := 96) (M := M) hx hI (by omega) h_a1 h_a2 h_a3
  rw [← hM1, show (25 : Nat) + 5 = 30 from rfl] at c2
  refine ⟨putM w1 96 M', ?_, pair_ok x1 x2 hs hz x3 (stI_mono g2 (by omega)) rfl⟩
  simp (disch := first | omega | exact Nat.le_of_ble_eq_true rfl) only [e193_647, e193_648, e193_649, e193_650, e193_651, e193_652, e193_653, e193_654, e193_655, e193_656, e193_657, e193_658, e193_659, e193_660, e193_661, e193_662, e193_663, e193_666, e193_667, e193_668, e193_669, e193_670, e193_671, e193_672, e193_673, e193_674, e193_675, e193_676, e193_677, e193_678, e193_679, e193_680, e193_681, e193_682, e193_685, e193_688, e193_689, J_add, J_sub, J_mul, J_neg, J_lt, J_le, gArr_J, gAst_J, gSiz_J, gFld_o, gUpd_o0, gUpd_o1, gUpd_o2, gUpd_o3, gUpd_o4, gUpd_o5, gUpd_o6, gUpd_o7, gUpd_o8, gUpd_o9, gUpd_o10, gUpd_o11, gUpd_o12, gUpd_o13, gUpd_o14, gUpd_o15, gUpd_o16, gUpd_o17, gUpd_o18, gIsO_o, Option.bind_some, List.getElem?_cons_zero, List.getElem?_cons_succ, List.length_cons, List.length_nil, List.set_cons_zero, List.set_cons_succ, gCat_nil, gCat_int, gCat_ref, if_pos, if_neg, Option.toList_some, Option.toList_none, List.cons_append, List.nil_append, B_nar, J1_nar, J0_nar, if_true, if_false, rd_wr_same, rd_wr_ne, true_and, and_true, B_0, B_1, not_true_eq_false, not_false_eq_true, eq_self, Option.bind_some, hs, hs1, b0, b1, c1, c2, gCat_nil, n1, n2, n3]

theorem k20 {nat : gNat} {t : Int} {w : gWd} {i : Int} (hi : 0 ≤ i ∧ i < 1000) (ht0 : 0 ≤ t) (ht : t ≤ 900) (hW : lawW t w) : ∃ w', gX (gC gNatNo 30) nat 193 690 [some (.ref gSCR), some (.ref 0), some (.ref 96), some (.int (J i))] [] [] w = gX (gC gNatNo 30) nat 193 894 [some (.ref gSCR), some (.ref 0), some (.ref 96), some (.int (J i))] [] [] w' ∧ lawW (t + 1) w' := by
  obtain ⟨p, q, X, K, S, PT, KT, M, hX, hM, hs, hz, hI⟩ := hW
  obtain ⟨iR, hK, hkk, ⟨hS, hH⟩, iP, iKp, iE, iT, hL, hR, ⟨m0, m3, m4, m5, m6⟩⟩ := id hI
  have s0 := hS.1
  have hH' : 0 ≤ S 0 0 ∧ S 0 0 < 1000000 := ⟨s0, by omega⟩
  have hx : 96 + 12 < gSTR := by decide
  have b0 := o0 hX
  have b96 := o96 hM
  obtain ⟨w1, c1, x1, x2, x3⟩ := x96 (nat := gNatNo) (d := 5) (w := w) hX hK hS hH' 
  rw [show (5 : Nat) + 25 = 30 from rfl] at c1
  have hM1 := putM_tr hM x2
  have b1 := o96 hM1
  have hs1 : rd w1 gSCR = none := by rw [x2 _ (by decide)]; exact hs
  obtain ⟨M', c2, g2⟩ := z178 (nat := gNatNo) (d := 26) (w := w1) (x := 96) (M := M) hx hI (by omega) 
  rw [← hM1, show (26 : Nat) + 4 = 30 from rfl] at c2
  refine ⟨putM w1 96 M', ?_, pair_ok x1 x2 hs hz x3 (stI_mono g2 (by omega)) rfl⟩
  simp (disch := first | omega | exact Nat.le_of_ble_eq_true rfl) only [e193_690, e193_691, e193_694, e193_695, e193_698, e193_701, e193_702, J_add, J_sub, J_mul, J_neg, J_lt, J_le, gArr_J, gAst_J, gSiz_J, gFld_o, gUpd_o0, gUpd_o1, gUpd_o2, gUpd_o3, gUpd_o4, gUpd_o5, gUpd_o6, gUpd_o7, gUpd_o8, gUpd_o9, gUpd_o10, gUpd_o11, gUpd_o12, gUpd_o13, gUpd_o14, gUpd_o15, gUpd_o16, gUpd_o17, gUpd_o18, gIsO_o, Option.bind_some, List.getElem?_cons_zero, List.getElem?_cons_succ, List.length_cons, List.length_nil, List.set_cons_zero, List.set_cons_succ, gCat_nil, gCat_int, gCat_ref, if_pos, if_neg, Option.toList_some, Option.toList_none, List.cons_append, List.nil_append, B_nar, J1_nar, J0_nar, if_true, if_false, rd_wr_same, rd_wr_ne, true_and, and_true, B_0, B_1, not_true_eq_false, not_false_eq_true, eq_self, Option.bind_some, hs, hs1, b0, b1, c1, c2, gCat_nil]

theorem k21 {nat : gNat} {t : Int} {w : gWd} {i : Int} (hi : 0 ≤ i ∧ i < 1000) (ht0 : 0 ≤ t) (ht : t ≤ 900) (hW : lawW t w) {a1 : Int} (h_a1 : -2147483648 ≤ a1 ∧ a1 < 2147483648) (n1 : nat.1 13 [.int (J (i + 1))] = some (.int (J a1))) : ∃ w', gX (gC gNatNo 30) nat 193 703 [some (.ref gSCR), some (.ref 0), some (.ref 96), some (.int (J i))] [] [] w = gX (gC gNatNo 30) nat 193 894 [some (.ref gSCR), some (.ref 0), some (.ref 96), some (.int (J i))] [] [] w' ∧ lawW (t + 1) w' := by
  obtain ⟨p, q, X, K, S, PT, KT, M, hX, hM, hs, hz, hI⟩ := hW
  obtain ⟨iR, hK, hkk, ⟨hS, hH⟩, iP, iKp, iE, iT, hL, hR, ⟨m0, m3, m4, m5, m6⟩⟩ := id hI
  have s0 := hS.1
  have hH' : 0 ≤ S 0 0 ∧ S 0 0 < 1000000 := ⟨s0, by omega⟩
  have hx : 96 + 12 < gSTR := by decide
  have b0 := o0 hX
  have b96 := o96 hM
  have hT : ∀ i : Int, 0 ≤ i → i < X 0 4 → (0 ≤ X 2 i ∧ X 2 i < 8) ∧ (0 ≤ X 3 i ∧ X 3 i < 8) ∧ (0 ≤ X 4 i ∧ X 4 i ≤ 1) := fun i i1 i2 => by
    obtain ⟨u1, u2, u3, -⟩ := iE i i1 i2
    have := hK.1
    omega
  obtain ⟨w1, c1, x1, x2, x3⟩ := x97 (nat := gNatNo) (d := 5) (w := w) hX hK hS hH' iR hT h_a1
  rw [show (5 : Nat) + 25 = 30 from rfl] at c1
  have hM1 := putM_tr hM x2
  have b1 := o96 hM1
  have hs1 : rd w1 gSCR = none := by rw [x2 _ (by decide)]; exact hs
  have c2 := z180 (nat := gNatNo) (d := 25) (w := w1) (x := 96) (M := M) hx hI (by omega) h_a1
  rw [← hM1, show (25 : Nat) + 5 = 30 from rfl] at c2
  refine ⟨w1, ?_, pair_ok x1 x2 hs hz x3 (stI_mono hI (by omega)) hM1⟩
  simp (disch := first | omega | exact Nat.le_of_ble_eq_true rfl) only [e193_703, e193_704, e193_705, e193_706, e193_707, e193_708, e193_709, e193_712, e193_713, e193_714, e193_715, e193_716, e193_717, e193_718, e193_721, e193_724, e193_725, J_add, J_sub, J_mul, J_neg, J_lt, J_le, gArr_J, gAst_J, gSiz_J, gFld_o, gUpd_o0, gUpd_o1, gUpd_o2, gUpd_o3, gUpd_o4, gUpd_o5, gUpd_o6, gUpd_o7, gUpd_o8, gUpd_o9, gUpd_o10, gUpd_o11, gUpd_o12, gUpd_o13, gUpd_o14, gUpd_o15, gUpd_o16, gUpd_o17, gUpd_o18, gIsO_o, Option.bind_some, List.getElem?_cons_zero, List.getElem?_cons_succ, List.length_cons, List.length_nil, List.set_cons_zero, List.set_cons_succ, gCat_nil, gCat_int, gCat_ref, if_pos, if_neg, Option.toList_some, Option.toList_none, List.cons_append, List.nil_append, B_nar, J1_nar, J0_nar, if_true, if_false, rd_wr_same, rd_wr_ne, true_and, and_true, B_0, B_1, not_true_eq_false, not_false_eq_true, eq_self, Option.bind_some, hs, hs1, b0, b1, c1, c2, gCat_nil, n1]

theorem k22 {nat : gNat} {t : Int} {w : gWd} {i : Int} (hi : 0 ≤ i ∧ i < 1000) (ht0 : 0 ≤ t) (ht : t ≤ 900) (hW : lawW t w) {a1 : Int} (h_a1 : -2147483648 ≤ a1 ∧ a1 < 2147483648) (n1 : nat.1 13 [.int (J (i + 1))] = some (.int (J a1))) : ∃ w', gX (gC gNatNo 30) nat 193 726 [some (.ref gSCR), some (.ref 0), some (.ref 96), some (.int (J i))] [] [] w = gX (gC gNatNo 30) nat 193 894 [some (.ref gSCR), some (.ref 0), some (.ref 96), some (.int (J i))] [] [] w' ∧ lawW (t + 1) w' := by
  obtain ⟨p, q, X, K, S, PT, KT, M, hX, hM, hs, hz, hI⟩ := hW
  obtain ⟨iR, hK, hkk, ⟨hS, hH⟩, iP, iKp, iE, iT, hL, hR, ⟨m0, m3, m4, m5, m6⟩⟩ := id hI
  have s0 := hS.1
  have hH' : 0 ≤ S 0 0 ∧ S 0 0 < 1000000 := ⟨s0, by omega⟩
  have hx : 96 + 12 < gSTR := by decide
  have b0 := o0 hX
  have b96 := o96 hM
  have hT : ∀ i : Int, 0 ≤ i → i < X 0 4 → (0 ≤ X 2 i ∧ X 2 i < 8) ∧ (0 ≤ X 3 i ∧ X 3 i < 8) ∧ (0 ≤ X 4 i ∧ X 4 i ≤ 1) := fun i i1 i2 => by
    obtain ⟨u1, u2, u3, -⟩ := iE i i1 i2
    have := hK.1
    omega
  obtain ⟨w1, c1, x1, x2, x3⟩ := x98 (nat := gNatNo) (d := 5) (w := w) hX hK hS hH' iR hT h_a1
  rw [show (5 : Nat) + 25 = 30 from rfl] at c1
  have hM1 := putM_tr hM x2
  have b1 := o96 hM1
  have hs1 : rd w1 gSCR = none := by rw [x2 _ (by decide)]; exact hs
  have c2 := z182 (nat := gNatNo) (d := 24) (w := w1) (x := 96) (M := M) hx hI (by omega) h_a1
  rw [← hM1, show (24 : Nat) + 6 = 30 from rfl] at c2
  refine ⟨w1, ?_, pair_ok x1 x2 hs hz x3 (stI_mono hI (by omega)) hM1⟩
  simp (disch := first | omega | exact Nat.le_of_ble_eq_true rfl) only [e193_726, e193_727, e193_728, e193_729, e193_730, e193_731, e193_732, e193_735, e193_736, e193_737, e193_738, e193_739, e193_740, e193_741, e193_744, e193_747, e193_748, J_add, J_sub, J_mul, J_neg, J_lt, J_le, gArr_J, gAst_J, gSiz_J, gFld_o, gUpd_o0, gUpd_o1, gUpd_o2, gUpd_o3, gUpd_o4, gUpd_o5, gUpd_o6, gUpd_o7, gUpd_o8, gUpd_o9, gUpd_o10, gUpd_o11, gUpd_o12, gUpd_o13, gUpd_o14, gUpd_o15, gUpd_o16, gUpd_o17, gUpd_o18, gIsO_o, Option.bind_some, List.getElem?_cons_zero, List.getElem?_cons_succ, List.length_cons, List.length_nil, List.set_cons_zero, List.set_cons_succ, gCat_nil, gCat_int, gCat_ref, if_pos, if_neg, Option.toList_some, Option.toList_none, List.cons_append, List.nil_append, B_nar, J1_nar, J0_nar, if_true, if_false, rd_wr_same, rd_wr_ne, true_and, and_true, B_0, B_1, not_true_eq_false, not_false_eq_true, eq_self, Option.bind_some, hs, hs1, b0, b1, c1, c2, gCat_nil, n1]

theorem k23 {nat : gNat} {t : Int} {w : gWd} {i : Int} (hi : 0 ≤ i ∧ i < 1000) (ht0 : 0 ≤ t) (ht : t ≤ 900) (hW : lawW t w) {a1 : Int} (h_a1 : -2147483648 ≤ a1 ∧ a1 < 2147483648) (n1 : nat.1 13 [.int (J (i + 1))] = some (.int (J a1))) {a2 : Int} (h_a2 : -2147483648 ≤ a2 ∧ a2 < 2147483648) (n2 : nat.1 13 [.int (J (i + 2))] = some (.int (J a2))) {a3 : Int} (h_a3 : -2147483648 ≤ a3 ∧ a3 < 2147483648) (n3 : nat.1 13 [.int (J (i + 3))] = some (.int (J a3))) {a4 : Int} (h_a4 : -2147483648 ≤ a4 ∧ a4 < 2147483648) (n4 : nat.1 13 [.int (J (i + 4))] = some (.int (J a4))) : ∃ w', gX (gC gNatNo 30) nat 193 749 [some (.ref gSCR), some (.ref 0), some (.ref 96), some (.int (J i))] [] [] w = gX (gC gNatNo 30) nat 193 894 [some (.ref gSCR), some (.ref 0), some (.ref 96), some (.int (J i))] [] [] w' ∧ lawW (t + 1) w' := by
  obtain ⟨p, q, X, K, S, PT, KT, M, hX, hM, hs, hz, hI⟩ := hW
  obtain ⟨iR, hK, hkk, ⟨hS, hH⟩, iP, iKp, iE, iT, hL, hR, ⟨m0, m3, m4, m5, m6⟩⟩ := id hI
  have s0 := hS.1
  have hH' : 0 ≤ S 0 0 ∧ S 0 0 < 1000000 := ⟨s0, by omega⟩
  have hx : 96 + 12 < gSTR := by decide
  have b0 := o0 hX
  have b96 := o96 hM
  obtain ⟨w1, c1, x1, x2, x3⟩ := x99 (nat := gNatNo) (d := 5) (w := w) hX hK hS hH' h_a1 h_a2 h_a3 h_a4
  rw [show (5 : Nat) + 25 = 30 from rfl] at c1
  have hM1 := putM_tr hM x2
  have b1 := o96 hM1
  have hs1 : rd w1 gSCR = none := by rw [x2 _ (by decide)]; exact hs
  obtain ⟨f', c2⟩ := z184 (nat := gNatNo) (d := 25) (w := w1) (x := 96) (M := M) hx hL hK hR hS hH' h_a1 h_a2 h_a3 h_a4
  rw [← hM1, show (25 : Nat) + 5 = 30 from rfl] at c2
  refine ⟨putM w1 96 (rset M 7 f'), ?_, pair_ok x1 x2 hs hz x3 (stI_mono (stI_7 hI (Or.inl rfl)) (by omega)) rfl⟩
  simp (disch := first | omega | exact Nat.le_of_ble_eq_true rfl) only [e193_749, e193_750, e193_751, e193_752, e193_753, e193_754, e193_755, e193_756, e193_757, e193_758, e193_759, e193_760, e193_761, e193_762, e193_763, e193_764, e193_765, e193_766, e193_767, e193_768, e193_769, e193_770, e193_773, e193_774, e193_775, e193_776, e193_777, e193_778, e193_779, e193_780, e193_781, e193_782, e193_783, e193_784, e193_785, e193_786, e193_787, e193_788, e193_789, e193_790, e193_791, e193_792, e193_793, e193_794, e193_797, e193_800, e193_801, J_add, J_sub, J_mul, J_neg, J_lt, J_le, gArr_J, gAst_J, gSiz_J, gFld_o, gUpd_o0, gUpd_o1, gUpd_o2, gUpd_o3, gUpd_o4, gUpd_o5, gUpd_o6, gUpd_o7, gUpd_o8, gUpd_o9, gUpd_o10, gUpd_o11, gUpd_o12, gUpd_o13, gUpd_o14, gUpd_o15, gUpd_o16, gUpd_o17, gUpd_o18, gIsO_o, Option.bind_some, List.getElem?_cons_zero, List.getElem?_cons_succ, List.length_cons, List.length_nil, List.set_cons_zero, List.set_cons_succ, gCat_nil, gCat_int, gCat_ref, if_pos, if_neg, Option.toList_some, Option.toList_none, List.cons_append, List.nil_append, B_nar, J1_nar, J0_nar, if_true, if_false, rd_wr_same, rd_wr_ne, true_and, and_true, B_0, B_1, not_true_eq_false, not_false_eq_true, eq_self, Option.bind_some, hs, hs1, b0, b1, c1, c2, gCat_nil, n1, n2, n3, n4]

theorem k24 {nat : gNat} {t : Int} {w : gWd} {i : Int} (hi : 0 ≤ i ∧ i < 1000) (ht0 : 0 ≤ t) (ht : t ≤ 900) (hW : lawW t w) {a1 : Int} (h_a1 : -2147483648 ≤ a1 ∧ a1 < 2147483648) (n1 : nat.1 13 [.int (J (i + 1))] = some (.int (J a1))) {a2 : Int} (h_a2 : -2147483648 ≤ a2 ∧ a2 < 2147483648) (n2 : nat.1 13 [.int (J (i + 2))] = some (.int (J a2))) {a3 : Int} (h_a3 : -2147483648 ≤ a3 ∧ a3 < 2147483648) (n3 : nat.1 13 [.int (J (i + 3))] = some (.int (J a3))) : ∃ w', gX (gC gNatNo 30) nat 193 802 [some (.ref gSCR), some (.ref 0), some (.ref 96), some (.int (J i))] [] [] w = gX (gC gNatNo 30) nat 193 894 [some (.ref gSCR), some (.ref 0), some (.ref 96), some (.int (J i))] [] [] w' ∧ lawW (t + 1) w' := by
  obtain ⟨p, q, X, K, S, PT, KT, M, hX, hM, hs, hz, hI⟩ := hW
  obtain ⟨iR, hK, hkk, ⟨hS, hH⟩, iP, iKp, iE, iT, hL, hR, ⟨m0, m3, m4, m5, m6⟩⟩ := id hI
  have s0 := hS.1
  have hH' : 0 ≤ S 0 0 ∧ S 0 0 < 1000000 := ⟨s0, by omega⟩
  have hx : 96 + 12 < gSTR := by decide
  have b0 := o0 hX
  have b96 := o96 hM
  obtain ⟨w1, c1, x1, x2, x3⟩ := x100 (nat := gNatNo) (d := 5) (w := w) hX hK hS hH' hkk h_a1 h_a2 h_a3
  rw [show (5 : Nat) + 25 = 30 from rfl] at c1
  have hM1 := putM_tr hM x2
  have b1 := o96 hM1
  have hs1 : rd w1 gSCR = none := by rw [x2 _ (by decide)]; exact hs
  obtain ⟨f', c2⟩ := z187 (nat := gNatNo) (d := 24) (w := w1) (x := 96) (M := M) hx hL hK hR hS hH' hkk h_a1 h_a2 h_a3
  rw [← hM1, show (24 : Nat) + 6 = 30 from rfl] at c2
  refine ⟨putM w1 96 (rset M 7 f'), ?_, pair_ok x1 x2 hs hz x3 (stI_mono (stI_7 hI (Or.inl rfl)) (by omega)) rfl⟩
  simp (disch := first | omega | exact Nat.le_of_ble_eq_true rfl) only [e193_802, e193_803, e193_804, e193_805, e193_806, e193_807, e193_808, e193_809, e193_810, e193_811, e193_812, e193_813, e193_814, e193_815, e193_816, e193_817, e193_818, e193_821, e193_822, e193_823, e193_824, e193_825, e193_826, e193_827, e193_828, e193_829, e193_830, e193_831, e193_832, e193_833, e193_834, e193_835, e193_836, e193_837, e193_840, e193_843, e193_844, J_add, J_sub, J_mul, J_neg, J_lt, J_le, gArr_J, gAst_J, gSiz_J, gFld_o, gUpd_o0, gUpd_o1, gUpd_o2, gUpd_o3, gUpd_o4, gUpd_o5, gUpd_o6, gUpd_o7, gUpd_o8, gUpd_o9, gUpd_o10, gUpd_o11, gUpd_o12, gUpd_o13, gUpd_o14, gUpd_o15, gUpd_o16, gUpd_o17, gUpd_o18, gIsO_o, Option.bind_some, List.getElem?_cons_zero, List.getElem?_cons_succ, List.length_cons, List.length_nil, List.set_cons_zero, List.set_cons_succ, gCat_nil, gCat_int, gCat_ref, if_pos, if_neg, Option.toList_some, Option.toList_none, List.cons_append, List.nil_append, B_nar, J1_nar, J0_nar, if_true, if_false, rd_wr_same, rd_wr_ne, true_and, and_true, B_0, B_1, not_true_eq_false, not_false_eq_true, eq_self, Option.bind_some, hs, hs1, b0, b1, c1, c2, gCat_nil, n1, n2, n3]

theorem k25 {nat : gNat} {t : Int} {w : gWd} {i : Int} (hi : 0 ≤ i ∧ i < 1000) (ht0 : 0 ≤ t) (ht : t ≤ 900) (hW : lawW t w) : ∃ w', gX (gC gNatNo 30) nat 193 845 [some (.ref gSCR), some (.ref 0), some (.ref 96), some (.int (J i))] [] [] w = gX (gC gNatNo 30) nat 193 894 [some (.ref gSCR), some (.ref 0), some (.ref 96), some (.int (J i))] [] [] w' ∧ lawW (t + 1) w' := by
  obtain ⟨p, q, X, K, S, PT, KT, M, hX, hM, hs, hz, hI⟩ := hW
  obtain ⟨iR, hK, hkk, ⟨hS, hH⟩, iP, iKp, iE, iT, hL, hR, ⟨m0, m3, m4, m5, m6⟩⟩ := id hI
  have s0 := hS.1
  have hH' : 0 ≤ S 0 0 ∧ S 0 0 < 1000000 := ⟨s0, by omega⟩
  have hx : 96 + 12 < gSTR := by decide
  have b0 := o0 hX
  have b96 := o96 hM
  obtain ⟨w1, c1, x1, x2, x3⟩ := x101 (nat := gNatNo) (d := 5) (w := w) hX hK hS hH' iR
  rw [show (5 : Nat) + 25 = 30 from rfl] at c1
  have hM1 := putM_tr hM x2
  have b1 := o96 hM1
  have hs1 : rd w1 gSCR = none := by rw [x2 _ (by decide)]; exact hs
  obtain ⟨M', c2, g2⟩ := z188 (nat := gNatNo) (d := 26) (w := w1) (x := 96) (M := M) hx hI (by omega) 
  rw [← hM1, show (26 : Nat) + 4 = 30 from rfl] at c2
  refine ⟨putM w1 96 M', ?_, pair_ok x1 x2 hs hz x3 (stI_mono g2 (by omega)) rfl⟩
  simp (disch := first | omega | exact Nat.le_of_ble_eq_true rfl) only [e193_845, e193_846, e193_849, e193_850, e193_853, e193_856, e193_857, J_add, J_sub, J_mul, J_neg, J_lt, J_le, gArr_J, gAst_J, gSiz_J, gFld_o, gUpd_o0, gUpd_o1, gUpd_o2, gUpd_o3, gUpd_o4, gUpd_o5, gUpd_o6, gUpd_o7, gUpd_o8, gUpd_o9, gUpd_o10, gUpd_o11, gUpd_o12, gUpd_o13, gUpd_o14, gUpd_o15, gUpd_o16, gUpd_o17, gUpd_o18, gIsO_o, Option.bind_some, List.getElem?_cons_zero, List.getElem?_cons_succ, List.length_cons, List.length_nil, List.set_cons_zero, List.set_cons_succ, gCat_nil, gCat_int, gCat_ref, if_pos, if_neg, Option.toList_some, Option.toList_none, List.cons_append, List.nil_append, B_nar, J1_nar, J0_nar, if_true, if_false, rd_wr_same, rd_wr_ne, true_and, and_true, B_0, B_1, not_true_eq_false, not_false_eq_true, eq_self, Option.bind_some, hs, hs1, b0, b1, c1, c2, gCat_nil]

theorem k26 {nat : gNat} {t : Int} {w : gWd} {i : Int} (hi : 0 ≤ i ∧ i < 1000) (ht0 : 0 ≤ t) (ht : t ≤ 900) (hW : lawW t w) : ∃ w', gX (gC gNatNo 30) nat 193 858 [some (.ref gSCR), some (.ref 0), some (.ref 96), some (.int (J i))] [] [] w = gX (gC gNatNo 30) nat 193 894 [some (.ref gSCR), some (.ref 0), some (.ref 96), some (.int (J i))] [] [] w' ∧ lawW (t + 1) w' := by
  obtain ⟨p, q, X, K, S, PT, KT, M, hX, hM, hs, hz, hI⟩ := hW
  obtain ⟨iR, hK, hkk, ⟨hS, hH⟩, iP, iKp, iE, iT, hL, hR, ⟨m0, m3, m4, m5, m6⟩⟩ := id hI
  have s0 := hS.1
  have hH' : 0 ≤ S 0 0 ∧ S 0 0 < 1000000 := ⟨s0, by omega⟩
  have hx : 96 + 12 < gSTR := by decide
  have b0 := o0 hX
  have b96 := o96 hM
  obtain ⟨w1, c1, x1, x2, x3⟩ := x102 (nat := gNatNo) (d := 5) (w := w) hX hK hS hH' iR
  rw [show (5 : Nat) + 25 = 30 from rfl] at c1
  have hM1 := putM_tr hM x2
  have b1 := o96 hM1
  have hs1 : rd w1 gSCR = none := by rw [x2 _ (by decide)]; exact hs
  obtain ⟨M', c2, g2⟩ := z189 (nat := gNatNo) (d := 26) (w := w1) (x := 96) (M := M) hx hI (by omega) 
  rw [← hM1, show (26 : Nat) + 4 = 30 from rfl] at c2
  refine ⟨putM w1 96 M', ?_, pair_ok x1 x2 hs hz x3 (stI_mono g2 (by omega)) rfl⟩
  simp (disch := first | omega | exact Nat.le_of_ble_eq_true rfl) only [e193_858, e193_859, e193_862, e193_863, e193_866, e193_869, e193_870, J_add, J_sub, J_mul, J_neg, J_lt, J_le, gArr_J, gAst_J, gSiz_J, gFld_o, gUpd_o0, gUpd_o1, gUpd_o2, gUpd_o3, gUpd_o4, gUpd_o5, gUpd_o6, gUpd_o7, gUpd_o8, gUpd_o9, gUpd_o10, gUpd_o11, gUpd_o12, gUpd_o13, gUpd_o14, gUpd_o15, gUpd_o16, gUpd_o17, gUpd_o18, gIsO_o, Option.bind_some, List.getElem?_cons_zero, List.getElem?_cons_succ, List.length_cons, List.length_nil, List.set_cons_zero, List.set_cons_succ, gCat_nil, gCat_int, gCat_ref, if_pos, if_neg, Option.toList_some, Option.toList_none, List.cons_append, List.nil_append, B_nar, J1_nar, J0_nar, if_true, if_false, rd_wr_same, rd_wr_ne, true_and, and_true, B_0, B_1, not_true_eq_false, not_false_eq_true, eq_self, Option.bind_some, hs, hs1, b0, b1, c1, c2, gCat_nil]

theorem k27 {nat : gNat} {t : Int} {w : gWd} {i : Int} (hi : 0 ≤ i ∧ i < 1000) (ht0 : 0 ≤ t) (ht : t ≤ 900) (hW : lawW t w) {a1 : Int} (h_a1 : -2147483648 ≤ a1 ∧ a1 < 2147483648) (n1 : nat.1 13 [.int (J (i + 1))] = some (.int (J a1))) : ∃ w', gX (gC gNatNo 30) nat 193 871 [some (.ref gSCR), some (.ref 0), some (.ref 96), some (.int (J i))] [] [] w = gX (gC gNatNo 30) nat 193 894 [some (.ref gSCR), some (.ref 0), some (.ref 96), some (.int (J i))] [] [] w' ∧ lawW (t + 1) w' := by
  obtain ⟨p, q, X, K, S, PT, KT, M, hX, hM, hs, hz, hI⟩ := hW
  obtain ⟨iR, hK, hkk, ⟨hS, hH⟩, iP, iKp, iE, iT, hL, hR, ⟨m0, m3, m4, m5, m6⟩⟩ := id hI
  have s0 := hS.1
  have hH' : 0 ≤ S 0 0 ∧ S 0 0 < 1000000 := ⟨s0, by omega⟩
  have hx : 96 + 12 < gSTR := by decide
  have b0 := o0 hX
  have b96 := o96 hM
  obtain ⟨w1, c1, x1, x2, x3⟩ := x103 (nat := gNatNo) (d := 5) (w := w) hX hK hS hH' h_a1
  rw [show (5 : Nat) + 25 = 30 from rfl] at c1
  have hM1 := putM_tr hM x2
  have b1 := o96 hM1
  have hs1 : rd w1 gSCR = none := by rw [x2 _ (by decide)]; exact hs
  have c2 := z191 (nat := gNatNo) (d := 25) (w := w1) (x := 96) (M := M) hx hI (by omega) h_a1
  rw [← hM1, show (25 : Nat) + 5 = 30 from rfl] at c2
  refine ⟨w1, ?_, pair_ok x1 x2 hs hz x3 (stI_mono hI (by omega)) hM1⟩
  simp (disch := first | omega | exact Nat.le_of_ble_eq_true rfl) only [e193_871, e193_872, e193_873, e193_874, e193_875, e193_876, e193_877, e193_880, e193_881, e193_882, e193_883, e193_884, e193_885, e193_886, e193_889, e193_892, e193_893, J_add, J_sub, J_mul, J_neg, J_lt, J_le, gArr_J, gAst_J, gSiz_J, gFld_o, gUpd_o0, gUpd_o1, gUpd_o2, gUpd_o3, gUpd_o4, gUpd_o5, gUpd_o6, gUpd_o7, gUpd_o8, gUpd_o9, gUpd_o10, gUpd_o11, gUpd_o12, gUpd_o13, gUpd_o14, gUpd_o15, gUpd_o16, gUpd_o17, gUpd_o18, gIsO_o, Option.bind_some, List.getElem?_cons_zero, List.getElem?_cons_succ, List.length_cons, List.length_nil, List.set_cons_zero, List.set_cons_succ, gCat_nil, gCat_int, gCat_ref, if_pos, if_neg, Option.toList_some, Option.toList_none, List.cons_append, List.nil_append, B_nar, J1_nar, J0_nar, if_true, if_false, rd_wr_same, rd_wr_ne, true_and, and_true, B_0, B_1, not_true_eq_false, not_false_eq_true, eq_self, Option.bind_some, hs, hs1, b0, b1, c1, c2, gCat_nil, n1]
