/-! the class's object and all that hangs at it: places 0 .. 95 -/
def cR (w : gWd) : Prop := ∃ am on N, rd w 2 = oC 3 [.ref 3, .int (J am), .int (J on)] ∧ rd w 3 = iC 5 (eI N)
def cQ (w : gWd) (q : Nat) : Prop := ∃ Q, isMe w q Q
def cTr (w : gWd) : Prop := ∃ T, isSt w 16 T ∧ nS T
def cE (w : gWd) (hd : Int) (A1 A2 A3 : Int → Int) : Prop := ∃ st lo bp bq A4, rd w 64 = oC 5 [.int (J hd), .int (J st), .int (J lo), .int (J bp), .int (J bq), .ref 65, .ref 66, .ref 67, .ref 68] ∧ rd w 65 = iC 8 (eI A1) ∧ rd w 66 = iC 8 (eI A2) ∧ rd w 67 = iC 8 (eI A3) ∧ rd w 68 = iC 64 (eI A4) ∧ (∀ i : Int, 64 ≤ i → A4 i = 0)
def cH (w : gWd) : Prop := isHp w 69 ∧ ∃ f, rd w 70 = iC 8 (eI f) ∧ ∀ x : Int, 8 ≤ x → f x = 0
def cW (w : gWd) : Prop := ∃ b se li R Ts, isRo w 71 b se li R Ts
def cD (w : gWd) : Prop := ∃ mo A1 A2 C L, rd w 91 = oC 0 [.int (J mo), .ref 92, .ref 93, .ref 94, .ref 95] ∧ rd w 92 = iC 4 (eI A1) ∧ rd w 93 = iC 4 (eI A2) ∧ rd w 94 = iC 8 (eI (cI C)) ∧ rd w 95 = iC 8 (eI (cI L)) ∧ (∀ g, C g < 16) ∧ (∀ g, L g < 65536)
def isX (w : gWd) (p q : Nat) (X K S : Lay) (PT KT : Nat → Lay) : Prop :=
  rd w 0 = oC 8 [.ref 1, .int (J (X 0 0)), .ref 2, .ref p, .ref q, .ref 12, .ref 16, .ref 20, .ref 54, .ref 64, .ref 69, .ref 71, .ref 91] ∧ rd w 1 = iC 200 (eI (X 1)) ∧ cR w ∧ isMe w p K ∧ cQ w q ∧ isSt w 12 S ∧ nS S ∧ cTr w ∧ isSh w 20 8 (X 0 1) (X 0 2) PT ∧ isSh w 54 2 (X 0 3) 0 KT ∧ cE w (X 0 4) (X 2) (X 3) (X 4) ∧ cH w ∧ cW w ∧ cD w ∧ ((p = 4 ∧ q = 8) ∨ (p = 8 ∧ q = 4))
theorem cR_fr {w w' : gWd} (h : cR w) (hf : ∀ z, 2 ≤ z → z ≤ 3 → rd w' z = rd w z) : cR w' := by
  obtain ⟨am, on, N, h1, h2⟩ := h
  exact ⟨am, on, N, by rw [hf _ (by omega) (by omega)]; exact h1, by rw [hf _ (by omega) (by omega)]; exact h2⟩
theorem cQ_fr {w w' : gWd} {q : Nat} (h : cQ w q) (hf : ∀ z, q ≤ z → z ≤ q + 3 → rd w' z = rd w z) : cQ w' q := by
  obtain ⟨Q, hQ⟩ := h
  exact ⟨Q, isMe_fr hQ hf⟩
theorem cTr_fr {w w' : gWd} (h : cTr w) (hf : ∀ z, 16 ≤ z → z ≤ 19 → rd w' z = rd w z) : cTr w' := by
  obtain ⟨T, h1, h2⟩ := h
  exact ⟨T, isSt_fr h1 (fun z z1 z2 => hf z z1 (by omega)), h2⟩
theorem isSh_fr {w w' : gWd} {x n : Nat} {hd od : Int} {T : Nat → Lay} (h : isSh w x n hd od T) (hf : ∀ z, x ≤ z → z < x + 2 + 4 * n → rd w' z = rd w z) : isSh w' x n hd od T := by
  obtain ⟨h0, h1, h2, h3⟩ := h
  exact ⟨h0, by rw [hf _ (by omega) (by omega)]; exact h1, by rw [hf _ (by omega) (by omega)]; exact h2, fun i hi => ⟨isSt_fr (h3 i hi).1 (fun z z1 z2 => hf z (by omega) (by omega)), (h3 i hi).2⟩⟩
theorem cE_fr {w w' : gWd} {hd : Int} {A1 A2 A3 : Int → Int} (h : cE w hd A1 A2 A3) (hf : ∀ z, 64 ≤ z → z ≤ 68 → rd w' z = rd w z) : cE w' hd A1 A2 A3 := by
  obtain ⟨st, lo, bp, bq, A4, h0, h1, h2, h3, h4, h5⟩ := h
  exact ⟨st, lo, bp, bq, A4, by rw [hf _ (by omega) (by omega)]; exact h0, by rw [hf _ (by omega) (by omega)]; exact h1, by rw [hf _ (by omega) (by omega)]; exact h2, by rw [hf _ (by omega) (by omega)]; exact h3, by rw [hf _ (by omega) (by omega)]; exact h4, h5⟩
theorem cH_fr {w w' : gWd} (h : cH w) (hf : ∀ z, 69 ≤ z → z ≤ 70 → rd w' z = rd w z) : cH w' := by
  obtain ⟨⟨h0, h1⟩, f, h2, h3⟩ := h
  exact ⟨⟨h0, by rw [hf _ (by omega) (by omega)]; exact h1⟩, f, by rw [hf _ (by omega) (by omega)]; exact h2, h3⟩
theorem isRo_fr {w w' : gWd} {x : Nat} {b : Int × Int × (Int → Int)} {se li : Int} {R : Int → Int} {Ts : Nat → Lay} (h : isRo w x b se li R Ts) (hf : ∀ z, x ≤ z → z < x + 20 → rd w' z = rd w z) : isRo w' x b se li R Ts := by
  obtain ⟨h0, h1, h2, h3, h4, h5⟩ := h
  exact ⟨h0, by rw [hf _ (by omega) (by omega)]; exact h1, by rw [hf _ (by omega) (by omega)]; exact h2, by rw [hf _ (by omega) (by omega)]; exact h3, by rw [hf _ (by omega) (by omega)]; exact h4, fun i hi => ⟨isSt_fr (h5 i hi).1 (fun z z1 z2 => hf z (by omega) (by omega)), (h5 i hi).2⟩⟩
theorem cW_fr {w w' : gWd} (h : cW w) (hf : ∀ z, 71 ≤ z → z < 91 → rd w' z = rd w z) : cW w' := by
  obtain ⟨b, se, li, R, Ts, h1⟩ := h
  exact ⟨b, se, li, R, Ts, isRo_fr h1 (fun z z1 z2 => hf z z1 (by omega))⟩
theorem cD_fr {w w' : gWd} (h : cD w) (hf : ∀ z, 91 ≤ z → z ≤ 95 → rd w' z = rd w z) : cD w' := by
  obtain ⟨mo, A1, A2, C, L, h0, h1, h2, h3, h4, h5⟩ := h
  exact ⟨mo, A1, A2, C, L, by rw [hf _ (by omega) (by omega)]; exact h0, by rw [hf _ (by omega) (by omega)]; exact h1, by rw [hf _ (by omega) (by omega)]; exact h2, by rw [hf _ (by omega) (by omega)]; exact h3, by rw [hf _ (by omega) (by omega)]; exact h4, h5⟩
theorem gSTR_big : 1000000 < gSTR := by decide
theorem cbs_in {K S : Lay} (hK : vK K) (hS : vS K S) : ∀ g, 0 ≤ g → g < K 0 1 → 0 ≤ S 1 g ∧ S 1 g ≤ 20 := fun g g1 g2 => by
  have := hS.2.1 g g1 g2
  have := (hK.2.2.2.2.2.1 g g1 g2).2.2.2.2.2
  omega
abbrev cb (K S : Lay) : Nat := cbs K S (K 0 1).toNat
theorem cb_lt {K : Lay} (hK : vK K) (S : Lay) : cb K S < 256 := cbs_lt K S _ (by have := hK.2.1; omega)
abbrev okG (K : Lay) (g : Int) : Prop := 0 ≤ g ∧ g ≤ K 0 1 - 1
abbrev okD (K : Lay) (x : Int) : Prop := 0 ≤ x ∧ x ≤ K 0 2 - 1
abbrev okP (K : Lay) (x : Int) : Prop := 0 ≤ x ∧ x ≤ K 0 0 - 1

theorem s105 {nat : gNat} {d : Nat} {w : gWd} {p q : Nat} {X K : Lay} (i0 : rd w 0 = oC 8 [.ref 1, .int (J (X 0 0)), .ref 2, .ref p, .ref q, .ref 12, .ref 16, .ref 20, .ref 54, .ref 64, .ref 69, .ref 71, .ref 91]) (iK : isMe w p K) (hK : vK K) {g : Int} (h_g : -2147483648 ≤ g ∧ g < 2147483648)  : gC nat (d + 2) 105 [.ref 0, .int (J g)] w = some (some (.int (B (okG K g))), w) := by
  rw [en105]
  obtain ⟨k0, k1, k2, k3, k4, kg, kd, kr⟩ := id hK
  have c1 := s113 (nat := nat) (d := d) (w := w) (x := g) (l := 0) (h := K 0 1 - 1) (by omega) (by omega) (by omega)
  simp (disch := first | omega | exact Nat.le_of_ble_eq_true rfl) only [e105_0, e105_1, e105_2, e105_3, e105_6, e105_9, e105_10, e105_11, e105_14, J_add, J_sub, J_mul, J_neg, J_lt, J_le, J_eq, gArr_J, gAst_J, gSiz_J, gFld_o, gUpd_o0, gUpd_o1, gUpd_o2, gUpd_o3, gUpd_o4, gUpd_o5, gUpd_o6, gUpd_o7, gUpd_o8, gUpd_o9, gUpd_o10, gUpd_o11, gUpd_o12, gUpd_o13, gUpd_o14, gUpd_o15, gUpd_o16, gUpd_o17, gUpd_o18, gIsO_o, Option.bind_some, List.getElem?_cons_zero, List.getElem?_cons_succ, List.length_cons, List.length_nil, List.set_cons_zero, List.set_cons_succ, gCat_nil, gCat_int, gCat_ref, if_pos, if_neg, Option.toList_some, Option.toList_none, List.cons_append, List.nil_append, B_nar, J1_nar, J0_nar, if_true, if_false, rd_wr_same, rd_wr_ne, true_and, and_true, B_0, B_1, not_true_eq_false, not_false_eq_true, i0, iK.2.1, c1]

theorem s106 {nat : gNat} {d : Nat} {w : gWd} {p q : Nat} {X K : Lay} (i0 : rd w 0 = oC 8 [.ref 1, .int (J (X 0 0)), .ref 2, .ref p, .ref q, .ref 12, .ref 16, .ref 20, .ref 54, .ref 64, .ref 69, .ref 71, .ref 91]) (iK : isMe w p K) (hK : vK K) {g : Int} (h_g : -2147483648 ≤ g ∧ g < 2147483648)  : gC nat (d + 2) 106 [.ref 0, .int (J g)] w = some (some (.int (B (okD K g))), w) := by
  rw [en106]
  obtain ⟨k0, k1, k2, k3, k4, kg, kd, kr⟩ := id hK
  have c1 := s113 (nat := nat) (d := d) (w := w) (x := g) (l := 0) (h := K 0 2 - 1) (by omega) (by omega) (by omega)
  simp (disch := first | omega | exact Nat.le_of_ble_eq_true rfl) only [e106_0, e106_1, e106_2, e106_3, e106_6, e106_9, e106_10, e106_11, e106_14, J_add, J_sub, J_mul, J_neg, J_lt, J_le, J_eq, gArr_J, gAst_J, gSiz_J, gFld_o, gUpd_o0, gUpd_o1, gUpd_o2, gUpd_o3, gUpd_o4, gUpd_o5, gUpd_o6, gUpd_o7, gUpd_o8, gUpd_o9, gUpd_o10, gUpd_o11, gUpd_o12, gUpd_o13, gUpd_o14, gUpd_o15, gUpd_o16, gUpd_o17, gUpd_o18, gIsO_o, Option.bind_some, List.getElem?_cons_zero, List.getElem?_cons_succ, List.length_cons, List.length_nil, List.set_cons_zero, List.set_cons_succ, gCat_nil, gCat_int, gCat_ref, if_pos, if_neg, Option.toList_some, Option.toList_none, List.cons_append, List.nil_append, B_nar, J1_nar, J0_nar, if_true, if_false, rd_wr_same, rd_wr_ne, true_and, and_true, B_0, B_1, not_true_eq_false, not_false_eq_true, i0, iK.2.1, c1]

theorem s107 {nat : gNat} {d : Nat} {w : gWd} {p q : Nat} {X K : Lay} (i0 : rd w 0 = oC 8 [.ref 1, .int (J (X 0 0)), .ref 2, .ref p, .ref q, .ref 12, .ref 16, .ref 20, .ref 54, .ref 64, .ref 69, .ref 71, .ref 91]) (iK : isMe w p K) (hK : vK K) {g : Int} (h_g : -2147483648 ≤ g ∧ g < 2147483648)  : gC nat (d + 2) 107 [.ref 0, .int (J g)] w = some (some (.int (B (okP K g))), w) := by
  rw [en107]
  obtain ⟨k0, k1, k2, k3, k4, kg, kd, kr⟩ := id hK
  have c1 := s113 (nat := nat) (d := d) (w := w) (x := g) (l := 0) (h := K 0 0 - 1) (by omega) (by omega) (by omega)
  simp (disch := first | omega | exact Nat.le_of_ble_eq_true rfl) only [e107_0, e107_1, e107_2, e107_3, e107_6, e107_9, e107_10, e107_11, e107_14, J_add, J_sub, J_mul, J_neg, J_lt, J_le, J_eq, gArr_J, gAst_J, gSiz_J, gFld_o, gUpd_o0, gUpd_o1, gUpd_o2, gUpd_o3, gUpd_o4, gUpd_o5, gUpd_o6, gUpd_o7, gUpd_o8, gUpd_o9, gUpd_o10, gUpd_o11, gUpd_o12, gUpd_o13, gUpd_o14, gUpd_o15, gUpd_o16, gUpd_o17, gUpd_o18, gIsO_o, Option.bind_some, List.getElem?_cons_zero, List.getElem?_cons_succ, List.length_cons, List.length_nil, List.set_cons_zero, List.set_cons_succ, gCat_nil, gCat_int, gCat_ref, if_pos, if_neg, Option.toList_some, Option.toList_none, List.cons_append, List.nil_append, B_nar, J1_nar, J0_nar, if_true, if_false, rd_wr_same, rd_wr_ne, true_and, and_true, B_0, B_1, not_true_eq_false, not_false_eq_true, i0, iK.2.1, c1]

def aGap (K S : Lay) (g u : Int) : Int := if okG K g ∧ (0 ≤ u ∧ u ≤ 6) then (if u < 5 then K 1 (5 * g + u) else if u = 5 then S 1 g else if K 1 (5 * g + 4) ≤ S 1 g then 1 else 0) else -1
def aSti (K S : Lay) (g u : Int) : Int := if okD K g ∧ (0 ≤ u ∧ u ≤ 3) then (if u = 1 then S 3 g else if u = 3 then S 2 g else K 2 (3 * g + u)) else -1
def aSky (K S : Lay) (n u : Int) : Int := if (0 ≤ n ∧ n ≤ 99) ∧ (0 ≤ u ∧ u ≤ 1) then (if u = 0 then (if (S 0 0 + n) % 24 < K 0 3 then 1 else 0) else if 0 < K 0 4 ∧ K 3 ((S 0 0 + n) % K 0 4) = 1 then 1 else 0) else -1
theorem B_J (r : Prop) [Decidable r] : B r = J (if r then 1 else 0) := by
  unfold B
  split
  · rfl
  · rfl

theorem x80 {nat : gNat} {d : Nat} {w : gWd} {p q : Nat} {X K S : Lay} {PT KT : Nat → Lay} (hX : isX w p q X K S PT KT) (hK : vK K) (hS : vS K S) (hH : 0 ≤ S 0 0 ∧ S 0 0 < 1000000) {g u : Int} (h_g : -2147483648 ≤ g ∧ g < 2147483648) (h_u : -2147483648 ≤ u ∧ u < 2147483648)  : gC nat (d + 25) 80 [.ref 0, .int (J g), .int (J u)] w = some (some (.int (J (aGap K S g u))), w) := by
  rw [en80]
  obtain ⟨i0, iT, iR, iK, iQ, iS, inS, iTr, iP, iKp, iE, iH, iW, iD, hpq⟩ := id hX
  have c1 := s105 (nat := nat) (d := d + 22) (w := w) i0 iK hK (g := g) h_g
  have c2 := s113 (nat := nat) (d := d + 23) (w := w) (x := u) (l := 0) (h := 6) (by omega) (by omega) (by omega)
  unfold aGap
  have kg := hK.2.1
  by_cases h1 : okG K g
  · rw [B_pos h1] at c1
    by_cases h2 : 0 ≤ u ∧ u ≤ 6
    · rw [B_pos h2] at c2
      rw [if_pos ⟨h1, h2⟩]
      by_cases h3 : u < 5
      · rw [if_pos h3]
        have c3 := s18 (nat := nat) (d := d + 23) (w := w) (m := p) (K := K) (g := g) (i := u) iK (by omega) (by omega)
        simp (disch := first | omega | exact Nat.le_of_ble_eq_true rfl) only [e80_0, e80_1, e80_2, e80_5, e80_8, e80_9, e80_10, e80_12, e80_15, e80_18, e80_19, e80_20, e80_21, e80_22, e80_25, e80_26, e80_29, e80_30, e80_31, e80_34, e80_35, e80_36, e80_37, e80_40, e80_41, e80_44, e80_45, e80_48, e80_51, e80_52, e80_55, e80_56, e80_59, e80_60, e80_63, e80_66, J_add, J_sub, J_mul, J_neg, J_lt, J_le, J_eq, gArr_J, gAst_J, gSiz_J, gFld_o, gUpd_o0, gUpd_o1, gUpd_o2, gUpd_o3, gUpd_o4, gUpd_o5, gUpd_o6, gUpd_o7, gUpd_o8, gUpd_o9, gUpd_o10, gUpd_o11, gUpd_o12, gUpd_o13, gUpd_o14, gUpd_o15, gUpd_o16, gUpd_o17, gUpd_o18, gIsO_o, Option.bind_some, List.getElem?_cons_zero, List.getElem?_cons_succ, List.length_cons, List.length_nil, List.set_cons_zero, List.set_cons_succ, gCat_nil, gCat_int, gCat_ref, if_pos, if_neg, Option.toList_some, Option.toList_none, List.cons_append, List.nil_append, B_nar, J1_nar, J0_nar, if_true, if_false, rd_wr_same, rd_wr_ne, true_and, and_true, B_0, B_1, not_true_eq_false, not_false_eq_true, i0, iK.2.1, iS.2.1, c1, c2, c3]
      · rw [if_neg h3]
        by_cases h4 : u = 5
        · rw [if_pos h4]
          have c3 := s59 (nat := nat) (d := d + 22) (w := w) (a := 12) (S := S) iS.1 (g := g) (by omega)
          rw [putS_self iS] at c3
          simp (disch := first | omega | exact Nat.le_of_ble_eq_true rfl) only [e80_0, e80_1, e80_2, e80_5, e80_8, e80_9, e80_10, e80_12, e80_15, e80_18, e80_19, e80_20, e80_21, e80_22, e80_25, e80_26, e80_29, e80_30, e80_31, e80_34, e80_35, e80_36, e80_37, e80_40, e80_41, e80_44, e80_45, e80_48, e80_51, e80_52, e80_55, e80_56, e80_59, e80_60, e80_63, e80_66, J_add, J_sub, J_mul, J_neg, J_lt, J_le, J_eq, gArr_J, gAst_J, gSiz_J, gFld_o, gUpd_o0, gUpd_o1, gUpd_o2, gUpd_o3, gUpd_o4, gUpd_o5, gUpd_o6, gUpd_o7, gUpd_o8, gUpd_o9, gUpd_o10, gUpd_o11, gUpd_o12, gUpd_o13, gUpd_o14, gUpd_o15, gUpd_o16, gUpd_o17, gUpd_o18, gIsO_o, Option.bind_some, List.getElem?_cons_zero, List.getElem?_cons_succ, List.length_cons, List.length_nil, List.set_cons_zero, List.set_cons_succ, gCat_nil, gCat_int, gCat_ref, if_pos, if_neg, Option.toList_some, Option.toList_none, List.cons_append, List.nil_append, B_nar, J1_nar, J0_nar, if_true, if_false, rd_wr_same, rd_wr_ne, true_and, and_true, B_0, B_1, not_true_eq_false, not_false_eq_true, i0, iK.2.1, iS.2.1, c1, c2, c3]
        · rw [if_neg h4]
          have c3 := s62 (nat := nat) (d := d + 22) (w := w) (a := 12) (S := S) iK hK (by omega) iS.1 (g := g) (by omega) (cbs_in hK hS g (by omega) (by omega))
          rw [putS_self iS] at c3
          have c4 := s116 (nat := nat) (d := d + 23) (w := w) (p := K 1 (5 * g + 4) ≤ S 1 g)
          rw [← B_J]
          simp (disch := first | omega | exact Nat.le_of_ble_eq_true rfl) only [e80_0, e80_1, e80_2, e80_5, e80_8, e80_9, e80_10, e80_12, e80_15, e80_18, e80_19, e80_20, e80_21, e80_22, e80_25, e80_26, e80_29, e80_30, e80_31, e80_34, e80_35, e80_36, e80_37, e80_40, e80_41, e80_44, e80_45, e80_48, e80_51, e80_52, e80_55, e80_56, e80_59, e80_60, e80_63, e80_66, J_add, J_sub, J_mul, J_neg, J_lt, J_le, J_eq, gArr_J, gAst_J, gSiz_J, gFld_o, gUpd_o0, gUpd_o1, gUpd_o2, gUpd_o3, gUpd_o4, gUpd_o5, gUpd_o6, gUpd_o7, gUpd_o8, gUpd_o9, gUpd_o10, gUpd_o11, gUpd_o12, gUpd_o13, gUpd_o14, gUpd_o15, gUpd_o16, gUpd_o17, gUpd_o18, gIsO_o, Option.bind_some, List.getElem?_cons_zero, List.getElem?_cons_succ, List.length_cons, List.length_nil, List.set_cons_zero, List.set_cons_succ, gCat_nil, gCat_int, gCat_ref, if_pos, if_neg, Option.toList_some, Option.toList_none, List.cons_append, List.nil_append, B_nar, J1_nar, J0_nar, if_true, if_false, rd_wr_same, rd_wr_ne, true_and, and_true, B_0, B_1, not_true_eq_false, not_false_eq_true, i0, iK.2.1, iS.2.1, c1, c2, c3, c4]
    · rw [B_neg h2] at c2
      rw [if_neg (fun z => h2 z.2)]
      simp (disch := first | omega | exact Nat.le_of_ble_eq_true rfl) only [e80_0, e80_1, e80_2, e80_5, e80_8, e80_9, e80_10, e80_12, e80_15, e80_18, e80_19, e80_20, e80_21, e80_22, e80_25, e80_26, e80_29, e80_30, e80_31, e80_34, e80_35, e80_36, e80_37, e80_40, e80_41, e80_44, e80_45, e80_48, e80_51, e80_52, e80_55, e80_56, e80_59, e80_60, e80_63, e80_66, J_add, J_sub, J_mul, J_neg, J_lt, J_le, J_eq, gArr_J, gAst_J, gSiz_J, gFld_o, gUpd_o0, gUpd_o1, gUpd_o2, gUpd_o3, gUpd_o4, gUpd_o5, gUpd_o6, gUpd_o7, gUpd_o8, gUpd_o9, gUpd_o10, gUpd_o11, gUpd_o12, gUpd_o13, gUpd_o14, gUpd_o15, gUpd_o16, gUpd_o17, gUpd_o18, gIsO_o, Option.bind_some, List.getElem?_cons_zero, List.getElem?_cons_succ, List.length_cons, List.length_nil, List.set_cons_zero, List.set_cons_succ, gCat_nil, gCat_int, gCat_ref, if_pos, if_neg, Option.toList_some, Option.toList_none, List.cons_append, List.nil_append, B_nar, J1_nar, J0_nar, if_true, if_false, rd_wr_same, rd_wr_ne, true_and, and_true, B_0, B_1, not_true_eq_false, not_false_eq_true, i0, iK.2.1, c1, c2]
  · rw [B_neg h1] at c1
    rw [if_neg (fun z => h1 z.1)]
    simp (disch := first | omega | exact Nat.le_of_ble_eq_true rfl) only [e80_0, e80_1, e80_2, e80_5, e80_8, e80_9, e80_10, e80_12, e80_15, e80_18, e80_19, e80_20, e80_21, e80_22, e80_25, e80_26, e80_29, e80_30, e80_31, e80_34, e80_35, e80_36, e80_37, e80_40, e80_41, e80_44, e80_45, e80_48, e80_51, e80_52, e80_55, e80_56, e80_59, e80_60, e80_63, e80_66, J_add, J_sub, J_mul, J_neg, J_lt, J_le, J_eq, gArr_J, gAst_J, gSiz_J, gFld_o, gUpd_o0, gUpd_o1, gUpd_o2, gUpd_o3, gUpd_o4, gUpd_o5, gUpd_o6, gUpd_o7, gUpd_o8, gUpd_o9, gUpd_o10, gUpd_o11, gUpd_o12, gUpd_o13, gUpd_o14, gUpd_o15, gUpd_o16, gUpd_o17, gUpd_o18, gIsO_o, Option.bind_some, List.getElem?_cons_zero, List.getElem?_cons_succ, List.length_cons, List.length_nil, List.set_cons_zero, List.set_cons_succ, gCat_nil, gCat_int, gCat_ref, if_pos, if_neg, Option.toList_some, Option.toList_none, List.cons_append, List.nil_append, B_nar, J1_nar, J0_nar, if_true, if_false, rd_wr_same, rd_wr_ne, true_and, and_true, B_0, B_1, not_true_eq_false, not_false_eq_true, i0, iK.2.1, c1, c2]

theorem x81 {nat : gNat} {d : Nat} {w : gWd} {p q : Nat} {X K S : Lay} {PT KT : Nat → Lay} (hX : isX w p q X K S PT KT) (hK : vK K) (hS : vS K S) (hH : 0 ≤ S 0 0 ∧ S 0 0 < 1000000) {g u : Int} (h_g : -2147483648 ≤ g ∧ g < 2147483648) (h_u : -2147483648 ≤ u ∧ u < 2147483648)  : gC nat (d + 25) 81 [.ref 0, .int (J g), .int (J u)] w = some (some (.int (J (aSti K S g u))), w) := by
  rw [en81]
  obtain ⟨i0, iT, iR, iK, iQ, iS, inS, iTr, iP, iKp, iE, iH, iW, iD, hpq⟩ := id hX
  have c1 := s106 (nat := nat) (d := d + 22) (w := w) i0 iK hK (g := g) h_g
  have c2 := s113 (nat := nat) (d := d + 23) (w := w) (x := u) (l := 0) (h := 3) (by omega) (by omega) (by omega)
  unfold aSti
  have kg := hK.2.2.1
  by_cases h1 : okD K g
  · rw [B_pos h1] at c1
    by_cases h2 : 0 ≤ u ∧ u ≤ 3
    · rw [B_pos h2] at c2
      rw [if_pos ⟨h1, h2⟩]
      by_cases h3 : u = 1
      · rw [if_pos h3]
        have c3 := s60 (nat := nat) (d := d + 22) (w := w) (a := 12) (S := S) iS.1 (g := g) (by omega)
        rw [putS_self iS] at c3
        simp (disch := first | omega | exact Nat.le_of_ble_eq_true rfl) only [e81_0, e81_1, e81_2, e81_5, e81_8, e81_9, e81_10, e81_11, e81_14, e81_17, e81_18, e81_19, e81_20, e81_21, e81_24, e81_25, e81_28, e81_29, e81_32, e81_33, e81_34, e81_35, e81_38, e81_39, e81_42, e81_43, e81_46, e81_49, e81_50, e81_53, e81_54, e81_55, e81_58, J_add, J_sub, J_mul, J_neg, J_lt, J_le, J_eq, gArr_J, gAst_J, gSiz_J, gFld_o, gUpd_o0, gUpd_o1, gUpd_o2, gUpd_o3, gUpd_o4, gUpd_o5, gUpd_o6, gUpd_o7, gUpd_o8, gUpd_o9, gUpd_o10, gUpd_o11, gUpd_o12, gUpd_o13, gUpd_o14, gUpd_o15, gUpd_o16, gUpd_o17, gUpd_o18, gIsO_o, Option.bind_some, List.getElem?_cons_zero, List.getElem?_cons_succ, List.length_cons, List.length_nil, List.set_cons_zero, List.set_cons_succ, gCat_nil, gCat_int, gCat_ref, if_pos, if_neg, Option.toList_some, Option.toList_none, List.cons_append, List.nil_append, B_nar, J1_nar, J0_nar, if_true, if_false, rd_wr_same, rd_wr_ne, true_and, and_true, B_0, B_1, not_true_eq_false, not_false_eq_true, i0, iK.2.1, iS.2.1, c1, c2, c3]
      · rw [if_neg h3]
        by_cases h4 : u = 3
        · rw [if_pos h4]
          have c3 := s61 (nat := nat) (d := d + 22) (w := w) (a := 12) (S := S) iS.1 (g := g) (by omega)
          rw [putS_self iS] at c3
          simp (disch := first | omega | exact Nat.le_of_ble_eq_true rfl) only [e81_0, e81_1, e81_2, e81_5, e81_8, e81_9, e81_10, e81_11, e81_14, e81_17, e81_18, e81_19, e81_20, e81_21, e81_24, e81_25, e81_28, e81_29, e81_32, e81_33, e81_34, e81_35, e81_38, e81_39, e81_42, e81_43, e81_46, e81_49, e81_50, e81_53, e81_54, e81_55, e81_58, J_add, J_sub, J_mul, J_neg, J_lt, J_le, J_eq, gArr_J, gAst_J, gSiz_J, gFld_o, gUpd_o0, gUpd_o1, gUpd_o2, gUpd_o3, gUpd_o4, gUpd_o5, gUpd_o6, gUpd_o7, gUpd_o8, gUpd_o9, gUpd_o10, gUpd_o11, gUpd_o12, gUpd_o13, gUpd_o14, gUpd_o15, gUpd_o16, gUpd_o17, gUpd_o18, gIsO_o, Option.bind_some, List.getElem?_cons_zero, List.getElem?_cons_succ, List.length_cons, List.length_nil, List.set_cons_zero, List.set_cons_succ, gCat_nil, gCat_int, gCat_ref, if_pos, if_neg, Option.toList_some, Option.toList_none, List.cons_append, List.nil_append, B_nar, J1_nar, J0_nar, if_true, if_false, rd_wr_same, rd_wr_ne, true_and, and_true, B_0, B_1, not_true_eq_false, not_false_eq_true, i0, iK.2.1, iS.2.1, c1, c2, c3]
        · rw [if_neg h4]
          have c3 := s19 (nat := nat) (d := d + 23) (w := w) (m := p) (K := K) (g := g) (i := u) iK (by omega) (by omega)
          simp (disch := first | omega | exact Nat.le_of_ble_eq_true rfl) only [e81_0, e81_1, e81_2, e81_5, e81_8, e81_9, e81_10, e81_11, e81_14, e81_17, e81_18, e81_19, e81_20, e81_21, e81_24, e81_25, e81_28, e81_29, e81_32, e81_33, e81_34, e81_35, e81_38, e81_39, e81_42, e81_43, e81_46, e81_49, e81_50, e81_53, e81_54, e81_55, e81_58, J_add, J_sub, J_mul, J_neg, J_lt, J_le, J_eq, gArr_J, gAst_J, gSiz_J, gFld_o, gUpd_o0, gUpd_o1, gUpd_o2, gUpd_o3, gUpd_o4, gUpd_o5, gUpd_o6, gUpd_o7, gUpd_o8, gUpd_o9, gUpd_o10, gUpd_o11, gUpd_o12, gUpd_o13, gUpd_o14, gUpd_o15, gUpd_o16, gUpd_o17, gUpd_o18, gIsO_o, Option.bind_some, List.getElem?_cons_zero, List.getElem?_cons_succ, List.length_cons, List.length_nil, List.set_cons_zero, List.set_cons_succ, gCat_nil, gCat_int, gCat_ref, if_pos, if_neg, Option.toList_some, Option.toList_none, List.cons_append, List.nil_append, B_nar, J1_nar, J0_nar, if_true, if_false, rd_wr_same, rd_wr_ne, true_and, and_true, B_0, B_1, not_true_eq_false, not_false_eq_true, i0, iK.2.1, iS.2.1, c1, c2, c3]
    · rw [B_neg h2] at c2
      rw [if_neg (fun z => h2 z.2)]
      simp (disch := first | omega | exact Nat.le_of_ble_eq_true rfl) only [e81_0, e81_1, e81_2, e81_5, e81_8, e81_9, e81_10, e81_11, e81_14, e81_17, e81_18, e81_19, e81_20, e81_21, e81_24, e81_25, e81_28, e81_29, e81_32, e81_33, e81_34, e81_35, e81_38, e81_39, e81_42, e81_43, e81_46, e81_49, e81_50, e81_53, e81_54, e81_55, e81_58, J_add, J_sub, J_mul, J_neg, J_lt, J_le, J_eq, gArr_J, gAst_J, gSiz_J, gFld_o, gUpd_o0, gUpd_o1, gUpd_o2, gUpd_o3, gUpd_o4, gUpd_o5, gUpd_o6, gUpd_o7, gUpd_o8, gUpd_o9, gUpd_o10, gUpd_o11, gUpd_o12, gUpd_o13, gUpd_o14, gUpd_o15, gUpd_o16, gUpd_o17, gUpd_o18, gIsO_o, Option.bind_some, List.getElem?_cons_zero, List.getElem?_cons_succ, List.length_cons, List.length_nil, List.set_cons_zero, List.set_cons_succ, gCat_nil, gCat_int, gCat_ref, if_pos, if_neg, Option.toList_some, Option.toList_none, List.cons_append, List.nil_append, B_nar, J1_nar, J0_nar, if_true, if_false, rd_wr_same, rd_wr_ne, true_and, and_true, B_0, B_1, not_true_eq_false, not_false_eq_true, i0, iK.2.1, c1, c2]
  · rw [B_neg h1] at c1
    rw [if_neg (fun z => h1 z.1)]
    simp (disch := first | omega | exact Nat.le_of_ble_eq_true rfl) only [e81_0, e81_1, e81_2, e81_5, e81_8, e81_9, e81_10, e81_11, e81_14, e81_17, e81_18, e81_19, e81_20, e81_21, e81_24, e81_25, e81_28, e81_29, e81_32, e81_33, e81_34, e81_35, e81_38, e81_39, e81_42, e81_43, e81_46, e81_49, e81_50, e81_53, e81_54, e81_55, e81_58, J_add, J_sub, J_mul, J_neg, J_lt, J_le, J_eq, gArr_J, gAst_J, gSiz_J, gFld_o, gUpd_o0, gUpd_o1, gUpd_o2, gUpd_o3, gUpd_o4, gUpd_o5, gUpd_o6, gUpd_o7, gUpd_o8, gUpd_o9, gUpd_o10, gUpd_o11, gUpd_o12, gUpd_o13, gUpd_o14, gUpd_o15, gUpd_o16, gUpd_o17, gUpd_o18, gIsO_o, Option.bind_some, List.getElem?_cons_zero, List.getElem?_cons_succ, List.length_cons, List.length_nil, List.set_cons_zero, List.set_cons_succ, gCat_nil, gCat_int, gCat_ref, if_pos, if_neg, Option.toList_some, Option.toList_none, List.cons_append, List.nil_append, B_nar, J1_nar, J0_nar, if_true, if_false, rd_wr_same, rd_wr_ne, true_and, and_true, B_0, B_1, not_true_eq_false, not_false_eq_true, i0, iK.2.1, c1, c2]

theorem x82 {nat : gNat} {d : Nat} {w : gWd} {p q : Nat} {X K S : Lay} {PT KT : Nat → Lay} (hX : isX w p q X K S PT KT) (hK : vK K) (hS : vS K S) (hH : 0 ≤ S 0 0 ∧ S 0 0 < 1000000) {n u : Int} (h_n : -2147483648 ≤ n ∧ n < 2147483648) (h_u : -2147483648 ≤ u ∧ u < 2147483648)  : gC nat (d + 25) 82 [.ref 0, .int (J n), .int (J u)] w = some (some (.int (J (aSky K S n u))), w) := by
  rw [en82]
  obtain ⟨i0, iT, iR, iK, iQ, iS, inS, iTr, iP, iKp, iE, iH, iW, iD, hpq⟩ := id hX
  have c1 := s113 (nat := nat) (d := d + 23) (w := w) (x := n) (l := 0) (h := 99) (by omega) (by omega) (by omega)
  have c2 := s113 (nat := nat) (d := d + 23) (w := w) (x := u) (l := 0) (h := 1) (by omega) (by omega) (by omega)
  unfold aSky
  by_cases h1 : 0 ≤ n ∧ n ≤ 99
  · rw [B_pos h1] at c1
    by_cases h2 : 0 ≤ u ∧ u ≤ 1
    · rw [B_pos h2] at c2
      rw [if_pos ⟨h1, h2⟩]
      by_cases h3 : u = 0
      · rw [if_pos h3]
        have c3 := s20 (nat := nat) (d := d + 23) (w := w) (m := p) (K := K) (h := S 0 0 + n) iK hK (by omega)
        have c4 := s116 (nat := nat) (d := d + 23) (w := w) (p := (S 0 0 + n) % 24 < K 0 3)
        rw [← B_J]
        simp (disch := first | omega | exact Nat.le_of_ble_eq_true rfl) only [e82_0, e82_1, e82_2, e82_4, e82_7, e82_10, e82_11, e82_12, e82_13, e82_16, e82_19, e82_20, e82_21, e82_22, e82_25, e82_28, e82_29, e82_30, e82_31, e82_32, e82_35, e82_36, e82_39, e82_40, e82_43, e82_46, e82_47, e82_50, e82_51, e82_54, e82_57, J_add, J_sub, J_mul, J_neg, J_lt, J_le, J_eq, gArr_J, gAst_J, gSiz_J, gFld_o, gUpd_o0, gUpd_o1, gUpd_o2, gUpd_o3, gUpd_o4, gUpd_o5, gUpd_o6, gUpd_o7, gUpd_o8, gUpd_o9, gUpd_o10, gUpd_o11, gUpd_o12, gUpd_o13, gUpd_o14, gUpd_o15, gUpd_o16, gUpd_o17, gUpd_o18, gIsO_o, Option.bind_some, List.getElem?_cons_zero, List.getElem?_cons_succ, List.length_cons, List.length_nil, List.set_cons_zero, List.set_cons_succ, gCat_nil, gCat_int, gCat_ref, if_pos, if_neg, Option.toList_some, Option.toList_none, List.cons_append, List.nil_append, B_nar, J1_nar, J0_nar, if_true, if_false, rd_wr_same, rd_wr_ne, true_and, and_true, B_0, B_1, not_true_eq_false, not_false_eq_true, i0, iK.2.1, iS.2.1, c1, c2, c3, c4]
      · rw [if_neg h3]
        have c3 := s22 (nat := nat) (d := d + 22) (w := w) (m := p) (K := K) (h := S 0 0 + n) iK hK (by omega)
        have c4 := s116 (nat := nat) (d := d + 23) (w := w) (p := 0 < K 0 4 ∧ K 3 ((S 0 0 + n) % K 0 4) = 1)
        rw [← B_J]
        simp (disch := first | omega | exact Nat.le_of_ble_eq_true rfl) only [e82_0, e82_1, e82_2, e82_4, e82_7, e82_10, e82_11, e82_12, e82_13, e82_16, e82_19, e82_20, e82_21, e82_22, e82_25, e82_28, e82_29, e82_30, e82_31, e82_32, e82_35, e82_36, e82_39, e82_40, e82_43, e82_46, e82_47, e82_50, e82_51, e82_54, e82_57, J_add, J_sub, J_mul, J_neg, J_lt, J_le, J_eq, gArr_J, gAst_J, gSiz_J, gFld_o, gUpd_o0, gUpd_o1, gUpd_o2, gUpd_o3, gUpd_o4, gUpd_o5, gUpd_o6, gUpd_o7, gUpd_o8, gUpd_o9, gUpd_o10, gUpd_o11, gUpd_o12, gUpd_o13, gUpd_o14, gUpd_o15, gUpd_o16, gUpd_o17, gUpd_o18, gIsO_o, Option.bind_some, List.getElem?_cons_zero, List.getElem?_cons_succ, List.length_cons, List.length_nil, List.set_cons_zero, List.set_cons_succ, gCat_nil, gCat_int, gCat_ref, if_pos, if_neg, Option.toList_some, Option.toList_none, List.cons_append, List.nil_append, B_nar, J1_nar, J0_nar, if_true, if_false, rd_wr_same, rd_wr_ne, true_and, and_true, B_0, B_1, not_true_eq_false, not_false_eq_true, i0, iK.2.1, iS.2.1, c1, c2, c3, c4]
    · rw [B_neg h2] at c2
      rw [if_neg (fun z => h2 z.2)]
      simp (disch := first | omega | exact Nat.le_of_ble_eq_true rfl) only [e82_0, e82_1, e82_2, e82_4, e82_7, e82_10, e82_11, e82_12, e82_13, e82_16, e82_19, e82_20, e82_21, e82_22, e82_25, e82_28, e82_29, e82_30, e82_31, e82_32, e82_35, e82_36, e82_39, e82_40, e82_43, e82_46, e82_47, e82_50, e82_51, e82_54, e82_57, J_add, J_sub, J_mul, J_neg, J_lt, J_le, J_eq, gArr_J, gAst_J, gSiz_J, gFld_o, gUpd_o0, gUpd_o1, gUpd_o2, gUpd_o3, gUpd_o4, gUpd_o5, gUpd_o6, gUpd_o7, gUpd_o8, gUpd_o9, gUpd_o10, gUpd_o11, gUpd_o12, gUpd_o13, gUpd_o14, gUpd_o15, gUpd_o16, gUpd_o17, gUpd_o18, gIsO_o, Option.bind_some, List.getElem?_cons_zero, List.getElem?_cons_succ, List.length_cons, List.length_nil, List.set_cons_zero, List.set_cons_succ, gCat_nil, gCat_int, gCat_ref, if_pos, if_neg, Option.toList_some, Option.toList_none, List.cons_append, List.nil_append, B_nar, J1_nar, J0_nar, if_true, if_false, rd_wr_same, rd_wr_ne, true_and, and_true, B_0, B_1, not_true_eq_false, not_false_eq_true, i0, iK.2.1, c1, c2]
  · rw [B_neg h1] at c1
    rw [if_neg (fun z => h1 z.1)]
    simp (disch := first | omega | exact Nat.le_of_ble_eq_true rfl) only [e82_0, e82_1, e82_2, e82_4, e82_7, e82_10, e82_11, e82_12, e82_13, e82_16, e82_19, e82_20, e82_21, e82_22, e82_25, e82_28, e82_29, e82_30, e82_31, e82_32, e82_35, e82_36, e82_39, e82_40, e82_43, e82_46, e82_47, e82_50, e82_51, e82_54, e82_57, J_add, J_sub, J_mul, J_neg, J_lt, J_le, J_eq, gArr_J, gAst_J, gSiz_J, gFld_o, gUpd_o0, gUpd_o1, gUpd_o2, gUpd_o3, gUpd_o4, gUpd_o5, gUpd_o6, gUpd_o7, gUpd_o8, gUpd_o9, gUpd_o10, gUpd_o11, gUpd_o12, gUpd_o13, gUpd_o14, gUpd_o15, gUpd_o16, gUpd_o17, gUpd_o18, gIsO_o, Option.bind_some, List.getElem?_cons_zero, List.getElem?_cons_succ, List.length_cons, List.length_nil, List.set_cons_zero, List.set_cons_succ, gCat_nil, gCat_int, gCat_ref, if_pos, if_neg, Option.toList_some, Option.toList_none, List.cons_append, List.nil_append, B_nar, J1_nar, J0_nar, if_true, if_false, rd_wr_same, rd_wr_ne, true_and, and_true, B_0, B_1, not_true_eq_false, not_false_eq_true, i0, iK.2.1, c1, c2]
