/-- how many of the first so many bits -/
def popN (s : Nat) : Nat → Nat
  | 0 => 0
  | n + 1 => popN s n + if s.testBit n = true then 1 else 0
abbrev pop (s : Nat) : Nat := popN s 8
theorem popN_le (s : Nat) : ∀ n, popN s n ≤ n := by
  intro n
  induction n with
  | zero => exact Nat.le_refl 0
  | succ n ih =>
    rw [popN]
    split
    · omega
    · omega
theorem pop_z : ∀ s, s < 256 → pop s = 0 → s = 0 := by decide +kernel
theorem pop_s : ∀ s, s < 256 → s ≠ 0 → pop (s &&& (s - 1)) + 1 = pop s := by decide +kernel

theorem s192 {nat : gNat} {d : Nat} {w : gWd} {s : Nat} (hs : s < 256) : gC nat (d + 1) 192 [.int (J s)] w = some (some (.int (J (pop s))), w) := by
  rw [en192]
  simp only [e192_0, e192_1, e192_2, e192_3, e192_4, e192_7, e192_8, e192_9, e192_10, e192_11, e192_14, e192_15, e192_16, e192_17, e192_18, e192_21, e192_22, e192_23, e192_24, e192_25, e192_26, e192_27, e192_28, e192_29, e192_32, e192_33, e192_34, e192_35, e192_36, e192_38, e192_39, e192_40, e192_41, e192_42, e192_43, e192_45, e192_46, e192_47, e192_48, e192_49, e192_51, e192_52, Option.toList_some]
  congr 3
  revert s
  decide +kernel

theorem l124 {nat : gNat} {d : Nat} {w : gWd} {z : Option Value} : ∀ (k s c : Nat), s < 256 → pop s = k → c + k < 1000 → gX (gC nat d) nat 124 4 [z, some (.int (J c)), some (.int (J s))] [] [] w = some (some (.int (J (c + k : Nat))), w) := by
  intro k
  induction k with
  | zero =>
    intro s c hs hk hc
    have := pop_z s hs hk
    subst this
    rw [e124_4, show ((0 : Nat) : Int) = 0 from rfl, Nat.add_zero]
    simp (disch := first | omega | exact Nat.le_of_ble_eq_true rfl) only [e124_0, e124_1, e124_2, e124_3, e124_5, e124_8, e124_11, e124_12, e124_13, e124_14, e124_15, e124_16, e124_17, e124_20, e124_21, J_add, J_sub, J_mul, J_neg, J_lt, J_le, J_eq, gArr_J, gAst_J, gSiz_J, gFld_o, gUpd_o0, gUpd_o1, gUpd_o2, gUpd_o3, gUpd_o4, gUpd_o5, gUpd_o6, gUpd_o7, gUpd_o8, gUpd_o9, gUpd_o10, gUpd_o11, gUpd_o12, gUpd_o13, gUpd_o14, gUpd_o15, gUpd_o16, gUpd_o17, gUpd_o18, gIsO_o, Option.bind_some, List.getElem?_cons_zero, List.getElem?_cons_succ, List.length_cons, List.length_nil, List.set_cons_zero, List.set_cons_succ, gCat_nil, gCat_int, gCat_ref, if_pos, if_neg, Option.toList_some, Option.toList_none, List.cons_append, List.nil_append, B_nar, J1_nar, J0_nar, if_true, if_false, rd_wr_same, rd_wr_ne, true_and, and_true, B_0, B_1, not_true_eq_false, not_false_eq_true]

  | succ k ih =>
    intro s c hs hk hc
    have h0 : s ≠ 0 := fun e => by
      subst e
      have : pop 0 = 0 := rfl
      omega
    have h1 := pop_s s hs h0
    have h2 : s &&& (s - 1) < 256 := Nat.lt_of_le_of_lt Nat.and_le_left hs
    have := ih (s &&& (s - 1)) (c + 1) h2 (by omega) (by omega)
    rw [show ((c + 1 : Nat) : Int) = (c : Int) + 1 from rfl, show c + 1 + k = c + (k + 1) by omega] at this
    rw [e124_4]
    have e1 : J ((s : Int) - 1) = J ((s - 1 : Nat) : Int) := congrArg J (Int.ofNat_sub (show 1 ≤ s by omega)).symm
    simp (disch := first | omega | exact Nat.le_of_ble_eq_true rfl) only [e124_0, e124_1, e124_2, e124_3, e124_5, e124_8, e124_11, e124_12, e124_13, e124_14, e124_15, e124_16, e124_17, e124_20, e124_21, J_add, J_sub, J_mul, J_neg, J_lt, J_le, J_eq, gArr_J, gAst_J, gSiz_J, gFld_o, gUpd_o0, gUpd_o1, gUpd_o2, gUpd_o3, gUpd_o4, gUpd_o5, gUpd_o6, gUpd_o7, gUpd_o8, gUpd_o9, gUpd_o10, gUpd_o11, gUpd_o12, gUpd_o13, gUpd_o14, gUpd_o15, gUpd_o16, gUpd_o17, gUpd_o18, gIsO_o, Option.bind_some, List.getElem?_cons_zero, List.getElem?_cons_succ, List.length_cons, List.length_nil, List.set_cons_zero, List.set_cons_succ, gCat_nil, gCat_int, gCat_ref, if_pos, if_neg, Option.toList_some, Option.toList_none, List.cons_append, List.nil_append, B_nar, J1_nar, J0_nar, if_true, if_false, rd_wr_same, rd_wr_ne, true_and, and_true, B_0, B_1, not_true_eq_false, not_false_eq_true, e1, J_and, this]

theorem s124 {nat : gNat} {d : Nat} {w : gWd} {s : Nat} (hs : s < 256) : gC nat (d + 1) 124 [.int (J s)] w = some (some (.int (J (pop s))), w) := by
  rw [en124]
  have := l124 (nat := nat) (d := d) (w := w) (z := some (.int (J s))) (pop s) s 0 hs rfl (by have h8 : pop s ≤ 8 := popN_le s 8; omega)
  rw [Nat.zero_add, show ((0 : Nat) : Int) = 0 from rfl] at this
  simp (disch := first | omega | exact Nat.le_of_ble_eq_true rfl) only [e124_0, e124_1, e124_2, e124_3, e124_5, e124_8, e124_11, e124_12, e124_13, e124_14, e124_15, e124_16, e124_17, e124_20, e124_21, J_add, J_sub, J_mul, J_neg, J_lt, J_le, J_eq, gArr_J, gAst_J, gSiz_J, gFld_o, gUpd_o0, gUpd_o1, gUpd_o2, gUpd_o3, gUpd_o4, gUpd_o5, gUpd_o6, gUpd_o7, gUpd_o8, gUpd_o9, gUpd_o10, gUpd_o11, gUpd_o12, gUpd_o13, gUpd_o14, gUpd_o15, gUpd_o16, gUpd_o17, gUpd_o18, gIsO_o, Option.bind_some, List.getElem?_cons_zero, List.getElem?_cons_succ, List.length_cons, List.length_nil, List.set_cons_zero, List.set_cons_succ, gCat_nil, gCat_int, gCat_ref, if_pos, if_neg, Option.toList_some, Option.toList_none, List.cons_append, List.nil_append, B_nar, J1_nar, J0_nar, if_true, if_false, rd_wr_same, rd_wr_ne, true_and, and_true, B_0, B_1, not_true_eq_false, not_false_eq_true, this]

def crewS (S : Lay) (c : Nat) (g : Int) : Lay := fun b x => if b = 2 ∧ 0 ≤ x ∧ x < 4 then (if c.testBit x.toNat = true then g else -4) else S b x

theorem s2 {nat : gNat} {d : Nat} {w : gWd} {a : Nat} {S : Lay} (ha : a + 3 < gSTR) {c : Nat} (hc : c < 16) {g : Int} : gC nat (d + 3) 2 [.ref a, .int (J c), .int (J g)] (putS w a S) = some (none, putS w a (crewS S c g)) := by
  rw [en2]
  have c1 : ∀ (S : Lay) (x g : Int), (0 ≤ x ∧ x < 4) → gC nat (d + 2) 66 [.ref a, .int (J x), .int (J g)] (putS w a S) = some (none, putS w a (sset S 2 x g)) := fun S x g h => s66 ha h
  have key : ∀ (S T : Lay) (i : Int) (n : Nat), (i = n) → n < 4 → (∀ b, b ≠ 2 → T b = S b) → (∀ x, 0 ≤ x → x < i → T 2 x = crewS S c g 2 x) → (∀ x, i ≤ x → T 2 x = S 2 x) → gX (gC nat (d + 2)) nat 2 2 [some (.ref a), some (.int (J c)), some (.int (J g)), some (.int (J i))] [] [] (putS w a T) = gX (gC nat (d + 2)) nat 2 2 [some (.ref a), some (.int (J c)), some (.int (J g)), some (.int (J (i + 1)))] [] [] (putS w a (sset T 2 i (if c.testBit n = true then g else -4))) := by
    intro S T i n hi hn h1 h2 h3
    have c2 := s114 (nat := nat) (d := d) (w := putS w a T) (s := c) (g := i) (by omega) (by omega)
    rw [show i.toNat = n by omega] at c2
    rw [e2_2]
    by_cases hb : c.testBit n = true
    · rw [B_pos hb] at c2
      rw [if_pos hb]
      simp (disch := first | omega | exact Nat.le_of_ble_eq_true rfl) only [e2_0, e2_1, e2_3, e2_4, e2_7, e2_8, e2_9, e2_10, e2_11, e2_14, e2_17, e2_18, e2_21, e2_23, e2_26, e2_29, e2_32, J_add, J_sub, J_mul, J_neg, J_lt, J_le, J_eq, gArr_J, gAst_J, gSiz_J, gFld_o, gUpd_o0, gUpd_o1, gUpd_o2, gUpd_o3, gUpd_o4, gUpd_o5, gUpd_o6, gUpd_o7, gUpd_o8, gUpd_o9, gUpd_o10, gUpd_o11, gUpd_o12, gUpd_o13, gUpd_o14, gUpd_o15, gUpd_o16, gUpd_o17, gUpd_o18, gIsO_o, Option.bind_some, List.getElem?_cons_zero, List.getElem?_cons_succ, List.length_cons, List.length_nil, List.set_cons_zero, List.set_cons_succ, gCat_nil, gCat_int, gCat_ref, if_pos, if_neg, Option.toList_some, Option.toList_none, List.cons_append, List.nil_append, B_nar, J1_nar, J0_nar, if_true, if_false, rd_wr_same, rd_wr_ne, true_and, and_true, B_0, B_1, not_true_eq_false, not_false_eq_true, c1, c2, rdP0]
    · rw [B_neg hb] at c2
      rw [if_neg hb]
      simp (disch := first | omega | exact Nat.le_of_ble_eq_true rfl) only [e2_0, e2_1, e2_3, e2_4, e2_7, e2_8, e2_9, e2_10, e2_11, e2_14, e2_17, e2_18, e2_21, e2_23, e2_26, e2_29, e2_32, J_add, J_sub, J_mul, J_neg, J_lt, J_le, J_eq, gArr_J, gAst_J, gSiz_J, gFld_o, gUpd_o0, gUpd_o1, gUpd_o2, gUpd_o3, gUpd_o4, gUpd_o5, gUpd_o6, gUpd_o7, gUpd_o8, gUpd_o9, gUpd_o10, gUpd_o11, gUpd_o12, gUpd_o13, gUpd_o14, gUpd_o15, gUpd_o16, gUpd_o17, gUpd_o18, gIsO_o, Option.bind_some, List.getElem?_cons_zero, List.getElem?_cons_succ, List.length_cons, List.length_nil, List.set_cons_zero, List.set_cons_succ, gCat_nil, gCat_int, gCat_ref, if_pos, if_neg, Option.toList_some, Option.toList_none, List.cons_append, List.nil_append, B_nar, J1_nar, J0_nar, if_true, if_false, rd_wr_same, rd_wr_ne, true_and, and_true, B_0, B_1, not_true_eq_false, not_false_eq_true, c1, c2, rdP0]
  have st : ∀ (T : Lay) (i : Int) (n : Nat), i = n → (∀ b, b ≠ 2 → T b = S b) → (∀ x, 0 ≤ x → x < i → T 2 x = crewS S c g 2 x) → (∀ x, i ≤ x → T 2 x = S 2 x) → n < 4 → (∀ b, b ≠ 2 → (sset T 2 i (if c.testBit n = true then g else -4)) b = S b) ∧ (∀ x, 0 ≤ x → x < i + 1 → (sset T 2 i (if c.testBit n = true then g else -4)) 2 x = crewS S c g 2 x) ∧ (∀ x, i + 1 ≤ x → (sset T 2 i (if c.testBit n = true then g else -4)) 2 x = S 2 x) := by
    intro T i n hi h1 h2 h3 hn
    refine ⟨fun b hb => by rw [sset_row hb]; exact h1 b hb, fun x x1 x2 => ?_, fun x hx => by rw [sset_fset, fset_ne (by omega)]; exact h3 x (by omega)⟩
    rw [sset_fset]
    by_cases q : x = i
    · subst q
      rw [fset_at]
      unfold crewS
      rw [if_pos (show (2 : Int) = 2 ∧ 0 ≤ x ∧ x < 4 from ⟨rfl, by omega, by omega⟩), show x.toNat = n by omega]
    · rw [fset_ne q]
      exact h2 x x1 (by omega)
  have s0 := st S 0 0 rfl (fun _ _ => rfl) (fun x h1 h2 => absurd h2 (by omega)) (fun _ _ => rfl) (by omega)
  have s1 := st _ 1 1 rfl s0.1 s0.2.1 s0.2.2 (by omega)
  have s2 := st _ 2 2 rfl s1.1 s1.2.1 s1.2.2 (by omega)
  have s3 := st _ 3 3 rfl s2.1 s2.2.1 s2.2.2 (by omega)
  have k0 := key S S 0 0 rfl (by omega) (fun _ _ => rfl) (fun x h1 h2 => absurd h2 (by omega)) (fun _ _ => rfl)
  have k1 := key S _ 1 1 rfl (by omega) s0.1 s0.2.1 s0.2.2
  have k2 := key S _ 2 2 rfl (by omega) s1.1 s1.2.1 s1.2.2
  have k3 := key S _ 3 3 rfl (by omega) s2.1 s2.2.1 s2.2.2
  rw [e2_0, e2_1, k0, show (0 : Int) + 1 = 1 from rfl, k1, show (1 : Int) + 1 = 2 from rfl, k2, show (2 : Int) + 1 = 3 from rfl, k3, show (3 : Int) + 1 = 4 from rfl, e2_2]
  simp (disch := first | omega | exact Nat.le_of_ble_eq_true rfl) only [e2_0, e2_1, e2_3, e2_4, e2_7, e2_8, e2_9, e2_10, e2_11, e2_14, e2_17, e2_18, e2_21, e2_23, e2_26, e2_29, e2_32, J_add, J_sub, J_mul, J_neg, J_lt, J_le, J_eq, gArr_J, gAst_J, gSiz_J, gFld_o, gUpd_o0, gUpd_o1, gUpd_o2, gUpd_o3, gUpd_o4, gUpd_o5, gUpd_o6, gUpd_o7, gUpd_o8, gUpd_o9, gUpd_o10, gUpd_o11, gUpd_o12, gUpd_o13, gUpd_o14, gUpd_o15, gUpd_o16, gUpd_o17, gUpd_o18, gIsO_o, Option.bind_some, List.getElem?_cons_zero, List.getElem?_cons_succ, List.length_cons, List.length_nil, List.set_cons_zero, List.set_cons_succ, gCat_nil, gCat_int, gCat_ref, if_pos, if_neg, Option.toList_some, Option.toList_none, List.cons_append, List.nil_append, B_nar, J1_nar, J0_nar, if_true, if_false, rd_wr_same, rd_wr_ne, true_and, and_true, B_0, B_1, not_true_eq_false, not_false_eq_true]
  congr 2
  refine putS_congr ?_ (fun x hx => ?_) (fun x hx => ?_) (fun x hx => ?_)
  · rw [s3.1 0 (by decide)]; rfl
  · rw [s3.1 1 (by decide)]; rfl
  · by_cases q : x < 4
    · exact s3.2.1 x hx q
    · rw [s3.2.2 x (by omega)]
      unfold crewS
      rw [if_neg (by omega)]
  · rw [s3.1 3 (by decide)]; rfl

theorem s70c {nat : gNat} {d : Nat} {w : gWd} {a m : Nat} {S K : Lay} (hm : isMe w m K) (hK : vK K) (ho : m + 3 < a ∨ a + 3 < m) (ha : a + 3 < gSTR) {g : Int} (hg : 0 ≤ g ∧ g < K 0 1) (hs : 0 ≤ S 1 g ∧ S 1 g ≤ 20) (hc : K 1 (5 * g + 4) ≤ S 1 g) {n : Int} (hn : 1 ≤ n ∧ n < 1000) : gC nat (d + 3) 70 [.ref a, .ref m, .int (J g), .int (J n)] (putS w a S) = some (some (.int (J 0)), putS w a S) := by
  rw [en70]
  have hm' : ∀ S, isMe (putS w a S) m K := fun S => isMe_putS ho hm
  obtain ⟨m0, m1, m2, m3, m4⟩ := id hm
  obtain ⟨k0, k1, k2, k3, k4, kg, kd, kr⟩ := id hK
  have a1 : a + 1 < gSTR := by omega
  have a2 : a + 2 < gSTR := by omega
  have c1 := s62 (nat := nat) (d := d) (w := w) (S := S) hm hK ho ha hg hs
  rw [B_pos hc] at c1
  simp (disch := first | exact hm' _ | assumption | omega | exact Nat.le_of_ble_eq_true rfl) only [e70_0, e70_1, e70_3, e70_5, e70_6, e70_9, e70_10, e70_11, e70_12, e70_15, e70_18, e70_20, e70_21, e70_22, e70_23, e70_24, e70_25, e70_28, e70_31, e70_34, e70_37, e70_40, e70_41, e70_42, e70_43, e70_46, e70_49, e70_50, e70_53, e70_55, J_add, J_sub, J_mul, J_neg, J_lt, J_le, J_eq, gArr_J, gAst_J, gSiz_J, gFld_o, gUpd_o0, gUpd_o1, gUpd_o2, gUpd_o3, gUpd_o4, gUpd_o5, gUpd_o6, gUpd_o7, gUpd_o8, gUpd_o9, gUpd_o10, gUpd_o11, gUpd_o12, gUpd_o13, gUpd_o14, gUpd_o15, gUpd_o16, gUpd_o17, gUpd_o18, gIsO_o, Option.bind_some, List.getElem?_cons_zero, List.getElem?_cons_succ, List.length_cons, List.length_nil, List.set_cons_zero, List.set_cons_succ, gCat_nil, gCat_int, gCat_ref, if_pos, if_neg, Option.toList_some, Option.toList_none, List.cons_append, List.nil_append, B_nar, J1_nar, J0_nar, if_true, if_false, rd_wr_same, rd_wr_ne, true_and, and_true, B_0, B_1, not_true_eq_false, not_false_eq_true, rdP0, rdP1, rdP2, rdP3, wP0, wP1, wP2, wP3, Nat.reduceAdd, c1]

/-! the search for a dealing: an object at x, four rows behind it -/
def putD (w : gWd) (x : Nat) (mo : Int) (A1 A2 A3 A4 : Int → Int) : gWd := wr (wr (wr (wr (wr w x (oC 0 [.int (J mo), .ref (x + 1), .ref (x + 2), .ref (x + 3), .ref (x + 4)])) (x + 1) (iC 4 (eI A1))) (x + 2) (iC 4 (eI A2))) (x + 3) (iC 8 (eI A3))) (x + 4) (iC 8 (eI A4))
theorem rdD0 {w : gWd} {x : Nat} {mo : Int} {A1 A2 A3 A4 : Int → Int} : rd (putD w x mo A1 A2 A3 A4) x = oC 0 [.int (J mo), .ref (x + 1), .ref (x + 2), .ref (x + 3), .ref (x + 4)] := by
  unfold putD
  simp (disch := omega) only [rd_wr_ne, rd_wr_same]
theorem rdD1 {w : gWd} {x : Nat} {mo : Int} {A1 A2 A3 A4 : Int → Int} : rd (putD w x mo A1 A2 A3 A4) (x + 1) = iC 4 (eI A1) := by
  unfold putD
  simp (disch := omega) only [rd_wr_ne, rd_wr_same]
theorem rdD2 {w : gWd} {x : Nat} {mo : Int} {A1 A2 A3 A4 : Int → Int} : rd (putD w x mo A1 A2 A3 A4) (x + 2) = iC 4 (eI A2) := by
  unfold putD
  simp (disch := omega) only [rd_wr_ne, rd_wr_same]
theorem rdD3 {w : gWd} {x : Nat} {mo : Int} {A1 A2 A3 A4 : Int → Int} : rd (putD w x mo A1 A2 A3 A4) (x + 3) = iC 8 (eI A3) := by
  unfold putD
  simp (disch := omega) only [rd_wr_ne, rd_wr_same]
theorem rdD4 {w : gWd} {x : Nat} {mo : Int} {A1 A2 A3 A4 : Int → Int} : rd (putD w x mo A1 A2 A3 A4) (x + 4) = iC 8 (eI A4) := by
  unfold putD
  simp (disch := omega) only [rd_wr_ne, rd_wr_same]
theorem rdDn {w : gWd} {x : Nat} {mo : Int} {A1 A2 A3 A4 : Int → Int} {b : Nat} (h : b < x ∨ x + 4 < b) : rd (putD w x mo A1 A2 A3 A4) b = rd w b := by
  unfold putD
  simp (disch := omega) only [rd_wr_ne]
theorem putD_rd {w : gWd} {x : Nat} {mo : Int} {A1 A2 A3 A4 : Int → Int} {w2 : gWd} (hz : w2.2 = w.2) (h0 : rd w2 x = oC 0 [.int (J mo), .ref (x + 1), .ref (x + 2), .ref (x + 3), .ref (x + 4)]) (h1 : rd w2 (x + 1) = iC 4 (eI A1)) (h2 : rd w2 (x + 2) = iC 4 (eI A2)) (h3 : rd w2 (x + 3) = iC 8 (eI A3)) (h4 : rd w2 (x + 4) = iC 8 (eI A4)) (hn : ∀ b, (b < x ∨ x + 4 < b) → rd w2 b = rd w b) : w2 = putD w x mo A1 A2 A3 A4 := by
  refine Prod.ext (funext fun b => ?_) hz
  show rd w2 b = rd (putD w x mo A1 A2 A3 A4) b
  by_cases hb : b < x ∨ x + 4 < b
  · rw [hn b hb, rdDn hb]
  · have hx : b = x ∨ b = x + 1 ∨ b = x + 2 ∨ b = x + 3 ∨ b = x + 4 := by omega
    rcases hx with rfl | rfl | rfl | rfl | rfl
    · rw [h0, rdD0]
    · rw [h1, rdD1]
    · rw [h2, rdD2]
    · rw [h3, rdD3]
    · rw [h4, rdD4]
theorem wD0 {w : gWd} {x : Nat} {mo : Int} {A1 A2 A3 A4 : Int → Int} {mo' : Int} : wr (putD w x mo A1 A2 A3 A4) x (oC 0 [.int (J mo'), .ref (x + 1), .ref (x + 2), .ref (x + 3), .ref (x + 4)]) = putD w x mo' A1 A2 A3 A4 := putD_rd (by rfl) rd_wr_same (by rw [rd_wr_ne (by omega)]; exact rdD1) (by rw [rd_wr_ne (by omega)]; exact rdD2) (by rw [rd_wr_ne (by omega)]; exact rdD3) (by rw [rd_wr_ne (by omega)]; exact rdD4) (fun b hb => by rw [rd_wr_ne (by omega), rdDn hb])
theorem wD1 {w : gWd} {x : Nat} {mo : Int} {A1 A2 A3 A4 : Int → Int} {B : Int → Int} : wr (putD w x mo A1 A2 A3 A4) (x + 1) (iC 4 (eI B)) = putD w x mo B A2 A3 A4 := putD_rd (by rfl) (by rw [rd_wr_ne (by omega)]; exact rdD0) rd_wr_same (by rw [rd_wr_ne (by omega)]; exact rdD2) (by rw [rd_wr_ne (by omega)]; exact rdD3) (by rw [rd_wr_ne (by omega)]; exact rdD4) (fun b hb => by rw [rd_wr_ne (by omega), rdDn hb])
theorem wD2 {w : gWd} {x : Nat} {mo : Int} {A1 A2 A3 A4 : Int → Int} {B : Int → Int} : wr (putD w x mo A1 A2 A3 A4) (x + 2) (iC 4 (eI B)) = putD w x mo A1 B A3 A4 := putD_rd (by rfl) (by rw [rd_wr_ne (by omega)]; exact rdD0) (by rw [rd_wr_ne (by omega)]; exact rdD1) rd_wr_same (by rw [rd_wr_ne (by omega)]; exact rdD3) (by rw [rd_wr_ne (by omega)]; exact rdD4) (fun b hb => by rw [rd_wr_ne (by omega), rdDn hb])
theorem wD3 {w : gWd} {x : Nat} {mo : Int} {A1 A2 A3 A4 : Int → Int} {B : Int → Int} : wr (putD w x mo A1 A2 A3 A4) (x + 3) (iC 8 (eI B)) = putD w x mo A1 A2 B A4 := putD_rd (by rfl) (by rw [rd_wr_ne (by omega)]; exact rdD0) (by rw [rd_wr_ne (by omega)]; exact rdD1) (by rw [rd_wr_ne (by omega)]; exact rdD2) rd_wr_same (by rw [rd_wr_ne (by omega)]; exact rdD4) (fun b hb => by rw [rd_wr_ne (by omega), rdDn hb])
theorem wD4 {w : gWd} {x : Nat} {mo : Int} {A1 A2 A3 A4 : Int → Int} {B : Int → Int} : wr (putD w x mo A1 A2 A3 A4) (x + 4) (iC 8 (eI B)) = putD w x mo A1 A2 A3 B := putD_rd (by rfl) (by rw [rd_wr_ne (by omega)]; exact rdD0) (by rw [rd_wr_ne (by omega)]; exact rdD1) (by rw [rd_wr_ne (by omega)]; exact rdD2) (by rw [rd_wr_ne (by omega)]; exact rdD3) rd_wr_same (fun b hb => by rw [rd_wr_ne (by omega), rdDn hb])

theorem s5 {nat : gNat} {d : Nat} {w : gWd} {x : Nat} {mo : Int} {A1 A2 A3 A4 : Int → Int} (hx : x + 4 < gSTR) {c : Int} (hc : -10 ≤ c ∧ c < 100) (hm : -10 ≤ mo ∧ mo < 100) : gC nat (d + 2) 5 [.ref x, .int (J c)] (putD w x mo A1 A2 A3 A4) = some (none, if c ≤ mo then putD w x mo A1 A2 A3 A4 else putD w x c (fun i => if 0 ≤ i ∧ i < 4 then A2 i else A1 i) A2 A3 A4) := by
  rw [en5]
  have x1 : x + 1 < gSTR := by omega
  have x2 : x + 2 < gSTR := by omega
  by_cases h : c ≤ mo
  · rw [if_pos h]
    simp (disch := first | omega | exact Nat.le_of_ble_eq_true rfl) only [e5_0, e5_1, e5_2, e5_5, e5_8, e5_9, e5_10, e5_11, e5_14, e5_15, e5_16, e5_17, e5_18, e5_21, e5_22, e5_25, e5_26, e5_27, e5_30, e5_31, e5_34, e5_37, e5_40, e5_43, J_add, J_sub, J_mul, J_neg, J_lt, J_le, J_eq, gArr_J, gAst_J, gSiz_J, gFld_o, gUpd_o0, gUpd_o1, gUpd_o2, gUpd_o3, gUpd_o4, gUpd_o5, gUpd_o6, gUpd_o7, gUpd_o8, gUpd_o9, gUpd_o10, gUpd_o11, gUpd_o12, gUpd_o13, gUpd_o14, gUpd_o15, gUpd_o16, gUpd_o17, gUpd_o18, gIsO_o, Option.bind_some, List.getElem?_cons_zero, List.getElem?_cons_succ, List.length_cons, List.length_nil, List.set_cons_zero, List.set_cons_succ, gCat_nil, gCat_int, gCat_ref, if_pos, if_neg, Option.toList_some, Option.toList_none, List.cons_append, List.nil_append, B_nar, J1_nar, J0_nar, if_true, if_false, rd_wr_same, rd_wr_ne, true_and, and_true, B_0, B_1, not_true_eq_false, not_false_eq_true, rdD0, wD0]
  · rw [if_neg h]
    have c1 : ∀ (A1 : Int → Int) (i v : Int), (0 ≤ i ∧ i < 4) → gC nat (d + 1) 118 [.ref (x + 1), .int (J i), .int (J v)] (putD w x c A1 A2 A3 A4) = some (none, putD w x c (fset A1 i v) A2 A3 A4) := fun A1 i v h => by rw [s118 rdD1 x1 (by omega) (by omega), wD1]
    have c2 : ∀ (A1 : Int → Int) (i : Int), (0 ≤ i ∧ i < 4) → gC nat (d + 1) 117 [.ref (x + 2), .int (J i)] (putD w x c A1 A2 A3 A4) = some (some (.int (J (A2 i))), putD w x c A1 A2 A3 A4) := fun A1 i h => s117 rdD2 x2 (by omega) (by omega)
    simp (disch := first | omega | exact Nat.le_of_ble_eq_true rfl) only [e5_0, e5_1, e5_2, e5_5, e5_8, e5_9, e5_10, e5_11, e5_14, e5_15, e5_16, e5_17, e5_18, e5_21, e5_22, e5_25, e5_26, e5_27, e5_30, e5_31, e5_34, e5_37, e5_40, e5_43, J_add, J_sub, J_mul, J_neg, J_lt, J_le, J_eq, gArr_J, gAst_J, gSiz_J, gFld_o, gUpd_o0, gUpd_o1, gUpd_o2, gUpd_o3, gUpd_o4, gUpd_o5, gUpd_o6, gUpd_o7, gUpd_o8, gUpd_o9, gUpd_o10, gUpd_o11, gUpd_o12, gUpd_o13, gUpd_o14, gUpd_o15, gUpd_o16, gUpd_o17, gUpd_o18, gIsO_o, Option.bind_some, List.getElem?_cons_zero, List.getElem?_cons_succ, List.length_cons, List.length_nil, List.set_cons_zero, List.set_cons_succ, gCat_nil, gCat_int, gCat_ref, if_pos, if_neg, Option.toList_some, Option.toList_none, List.cons_append, List.nil_append, B_nar, J1_nar, J0_nar, if_true, if_false, rd_wr_same, rd_wr_ne, true_and, and_true, B_0, B_1, not_true_eq_false, not_false_eq_true, rdD0, wD0, c1, c2, Int.reduceAdd]
    congr 3
    funext i
    unfold fset
    repeat' split
    all_goals first | rfl | omega | (congr 1; omega)
