/-- is a pair among the first n that were seen -/
def isn (A1 A2 : Int → Int) (p q : Int) : Nat → Bool
  | 0 => false
  | n + 1 => isn A1 A2 p q n || decide ((A1 n = p ∧ A2 n = q) ∨ (A1 n = q ∧ A2 n = p))
theorem isn_true {A1 A2 : Int → Int} {p q : Int} {n : Nat} (h : isn A1 A2 p q n = true) : ∀ k, isn A1 A2 p q (n + k) = true := by
  intro k
  induction k with
  | zero => exact h
  | succ k ih =>
    show (isn A1 A2 p q (n + k) || _) = true
    rw [ih, Bool.true_or]
theorem l49 {nat : gNat} {d : Nat} {w : gWd} {x : Nat} {hd st lo bp bq : Int} {A1 A2 A3 A4 : Int → Int} (hx : x + 4 < gSTR) {N : Nat} (hN : hd = N) (hN8 : N ≤ 8) (hA : ∀ i : Int, 0 ≤ i → i < N → (0 ≤ A1 i ∧ A1 i < 8) ∧ (0 ≤ A2 i ∧ A2 i < 8)) {p q : Int} (hp : 0 ≤ p ∧ p < 8) (hq : 0 ≤ q ∧ q < 8) : ∀ (k n : Nat) (z1 z2 : Option Value), n + k = N → isn A1 A2 p q n = false → gX (gC nat (d + 1)) nat 49 2 [some (.ref x), some (.int (J p)), some (.int (J q)), some (.int (J n)), z1, z2] [] [] (putE w x hd st lo bp bq A1 A2 A3 A4) = some (some (.int (B (isn A1 A2 p q N = true))), (putE w x hd st lo bp bq A1 A2 A3 A4)) := by
  subst hN
  have x1 : x + 1 < gSTR := by omega
  have x2 : x + 2 < gSTR := by omega
  intro k
  induction k with
  | zero =>
    intro n z1 z2 hn h0
    rw [Nat.add_zero] at hn
    subst hn
    rw [h0, B_neg (by decide), e49_2]
    simp (disch := first | omega | exact Nat.le_of_ble_eq_true rfl) only [e49_0, e49_1, e49_3, e49_4, e49_7, e49_10, e49_11, e49_14, e49_15, e49_18, e49_20, e49_21, e49_24, e49_25, e49_28, e49_30, e49_32, e49_33, e49_36, e49_38, e49_39, e49_42, e49_44, e49_45, e49_48, e49_50, e49_51, e49_54, e49_55, e49_56, e49_59, e49_62, e49_63, J_add, J_sub, J_mul, J_neg, J_lt, J_le, J_eq, gArr_J, gAst_J, gSiz_J, gFld_o, gUpd_o0, gUpd_o1, gUpd_o2, gUpd_o3, gUpd_o4, gUpd_o5, gUpd_o6, gUpd_o7, gUpd_o8, gUpd_o9, gUpd_o10, gUpd_o11, gUpd_o12, gUpd_o13, gUpd_o14, gUpd_o15, gUpd_o16, gUpd_o17, gUpd_o18, gIsO_o, Option.bind_some, List.getElem?_cons_zero, List.getElem?_cons_succ, List.length_cons, List.length_nil, List.set_cons_zero, List.set_cons_succ, gCat_nil, gCat_int, gCat_ref, if_pos, if_neg, Option.toList_some, Option.toList_none, List.cons_append, List.nil_append, B_nar, J1_nar, J0_nar, if_true, if_false, rd_wr_same, rd_wr_ne, true_and, and_true, B_0, B_1, not_true_eq_false, not_false_eq_true, rdE0, rdE1, rdE2, rdE3, rdE4, wE0, wE1, wE2, wE3, wE4]
  | succ k ih =>
    intro n z1 z2 hn h0
    obtain ⟨b1, b2⟩ := hA n (by omega) (by omega)
    have c1 := s117 (nat := nat) (d := d) (w := (putE w x N st lo bp bq A1 A2 A3 A4)) (a := x + 1) (n := 8) (f := A1) (i := n) rdE1 x1 (by omega) (by omega)
    have c2 := s117 (nat := nat) (d := d) (w := (putE w x N st lo bp bq A1 A2 A3 A4)) (a := x + 2) (n := 8) (f := A2) (i := n) rdE2 x2 (by omega) (by omega)
    have e1 : isn A1 A2 p q (n + 1) = decide ((A1 n = p ∧ A2 n = q) ∨ (A1 n = q ∧ A2 n = p)) := by
      show (isn A1 A2 p q n || _) = _
      rw [h0, Bool.false_or]
    have a1 : (J (A1 n) = J p) = (A1 n = p) := J_eq (by omega) (by omega)
    have a2 : (J (A2 n) = J q) = (A2 n = q) := J_eq (by omega) (by omega)
    have a3 : (J (A1 n) = J q) = (A1 n = q) := J_eq (by omega) (by omega)
    have a4 : (J (A2 n) = J p) = (A2 n = p) := J_eq (by omega) (by omega)
    rw [e49_2]
    by_cases h : (A1 n = p ∧ A2 n = q) ∨ (A1 n = q ∧ A2 n = p)
    · have hT := isn_true (e1.trans (decide_eq_true h)) k
      rw [show n + 1 + k = N by omega] at hT
      rw [hT, B_pos rfl]
      by_cases h1 : A1 n = p
      · by_cases h2 : A2 n = q
        · simp (disch := first | omega | exact Nat.le_of_ble_eq_true rfl) only [e49_0, e49_1, e49_3, e49_4, e49_7, e49_10, e49_11, e49_14, e49_15, e49_18, e49_20, e49_21, e49_24, e49_25, e49_28, e49_30, e49_32, e49_33, e49_36, e49_38, e49_39, e49_42, e49_44, e49_45, e49_48, e49_50, e49_51, e49_54, e49_55, e49_56, e49_59, e49_62, e49_63, J_add, J_sub, J_mul, J_neg, J_lt, J_le, J_eq, gArr_J, gAst_J, gSiz_J, gFld_o, gUpd_o0, gUpd_o1, gUpd_o2, gUpd_o3, gUpd_o4, gUpd_o5, gUpd_o6, gUpd_o7, gUpd_o8, gUpd_o9, gUpd_o10, gUpd_o11, gUpd_o12, gUpd_o13, gUpd_o14, gUpd_o15, gUpd_o16, gUpd_o17, gUpd_o18, gIsO_o, Option.bind_some, List.getElem?_cons_zero, List.getElem?_cons_succ, List.length_cons, List.length_nil, List.set_cons_zero, List.set_cons_succ, gCat_nil, gCat_int, gCat_ref, if_pos, if_neg, Option.toList_some, Option.toList_none, List.cons_append, List.nil_append, B_nar, J1_nar, J0_nar, if_true, if_false, rd_wr_same, rd_wr_ne, true_and, and_true, B_0, B_1, not_true_eq_false, not_false_eq_true, rdE0, rdE1, rdE2, rdE3, rdE4, wE0, wE1, wE2, wE3, wE4, c1, c2, a1, a2, a3, a4, h1, h2]
        · obtain ⟨h3, h4⟩ : A1 n = q ∧ A2 n = p := by
            rcases h with h | h
            · exact absurd h.2 h2
            · exact h
          exact absurd (h4.trans (h1.symm.trans h3)) h2
      · obtain ⟨h3, h4⟩ : A1 n = q ∧ A2 n = p := by
          rcases h with h | h
          · exact absurd h.1 h1
          · exact h
        simp (disch := first | omega | exact Nat.le_of_ble_eq_true rfl) only [e49_0, e49_1, e49_3, e49_4, e49_7, e49_10, e49_11, e49_14, e49_15, e49_18, e49_20, e49_21, e49_24, e49_25, e49_28, e49_30, e49_32, e49_33, e49_36, e49_38, e49_39, e49_42, e49_44, e49_45, e49_48, e49_50, e49_51, e49_54, e49_55, e49_56, e49_59, e49_62, e49_63, J_add, J_sub, J_mul, J_neg, J_lt, J_le, J_eq, gArr_J, gAst_J, gSiz_J, gFld_o, gUpd_o0, gUpd_o1, gUpd_o2, gUpd_o3, gUpd_o4, gUpd_o5, gUpd_o6, gUpd_o7, gUpd_o8, gUpd_o9, gUpd_o10, gUpd_o11, gUpd_o12, gUpd_o13, gUpd_o14, gUpd_o15, gUpd_o16, gUpd_o17, gUpd_o18, gIsO_o, Option.bind_some, List.getElem?_cons_zero, List.getElem?_cons_succ, List.length_cons, List.length_nil, List.set_cons_zero, List.set_cons_succ, gCat_nil, gCat_int, gCat_ref, if_pos, if_neg, Option.toList_some, Option.toList_none, List.cons_append, List.nil_append, B_nar, J1_nar, J0_nar, if_true, if_false, rd_wr_same, rd_wr_ne, true_and, and_true, B_0, B_1, not_true_eq_false, not_false_eq_true, rdE0, rdE1, rdE2, rdE3, rdE4, wE0, wE1, wE2, wE3, wE4, c1, c2, a1, a2, a3, a4, h1, h3, h4]
    · have this := fun z1 z2 => ih (n + 1) z1 z2 (by omega) (e1.trans (decide_eq_false h))
      rw [show ((n + 1 : Nat) : Int) = (n : Int) + 1 from rfl] at this
      by_cases h1 : A1 n = p
      · have h2 : ¬ A2 n = q := fun e => h (Or.inl ⟨h1, e⟩)
        by_cases h3 : A1 n = q
        · have h4 : ¬ A2 n = p := fun e => h (Or.inr ⟨h3, e⟩)
          simp (disch := first | omega | exact Nat.le_of_ble_eq_true rfl) only [e49_0, e49_1, e49_3, e49_4, e49_7, e49_10, e49_11, e49_14, e49_15, e49_18, e49_20, e49_21, e49_24, e49_25, e49_28, e49_30, e49_32, e49_33, e49_36, e49_38, e49_39, e49_42, e49_44, e49_45, e49_48, e49_50, e49_51, e49_54, e49_55, e49_56, e49_59, e49_62, e49_63, J_add, J_sub, J_mul, J_neg, J_lt, J_le, J_eq, gArr_J, gAst_J, gSiz_J, gFld_o, gUpd_o0, gUpd_o1, gUpd_o2, gUpd_o3, gUpd_o4, gUpd_o5, gUpd_o6, gUpd_o7, gUpd_o8, gUpd_o9, gUpd_o10, gUpd_o11, gUpd_o12, gUpd_o13, gUpd_o14, gUpd_o15, gUpd_o16, gUpd_o17, gUpd_o18, gIsO_o, Option.bind_some, List.getElem?_cons_zero, List.getElem?_cons_succ, List.length_cons, List.length_nil, List.set_cons_zero, List.set_cons_succ, gCat_nil, gCat_int, gCat_ref, if_pos, if_neg, Option.toList_some, Option.toList_none, List.cons_append, List.nil_append, B_nar, J1_nar, J0_nar, if_true, if_false, rd_wr_same, rd_wr_ne, true_and, and_true, B_0, B_1, not_true_eq_false, not_false_eq_true, rdE0, rdE1, rdE2, rdE3, rdE4, wE0, wE1, wE2, wE3, wE4, c1, c2, a1, a2, a3, a4, h1, h2, h3, h4, this]
        · simp (disch := first | omega | exact Nat.le_of_ble_eq_true rfl) only [e49_0, e49_1, e49_3, e49_4, e49_7, e49_10, e49_11, e49_14, e49_15, e49_18, e49_20, e49_21, e49_24, e49_25, e49_28, e49_30, e49_32, e49_33, e49_36, e49_38, e49_39, e49_42, e49_44, e49_45, e49_48, e49_50, e49_51, e49_54, e49_55, e49_56, e49_59, e49_62, e49_63, J_add, J_sub, J_mul, J_neg, J_lt, J_le, J_eq, gArr_J, gAst_J, gSiz_J, gFld_o, gUpd_o0, gUpd_o1, gUpd_o2, gUpd_o3, gUpd_o4, gUpd_o5, gUpd_o6, gUpd_o7, gUpd_o8, gUpd_o9, gUpd_o10, gUpd_o11, gUpd_o12, gUpd_o13, gUpd_o14, gUpd_o15, gUpd_o16, gUpd_o17, gUpd_o18, gIsO_o, Option.bind_some, List.getElem?_cons_zero, List.getElem?_cons_succ, List.length_cons, List.length_nil, List.set_cons_zero, List.set_cons_succ, gCat_nil, gCat_int, gCat_ref, if_pos, if_neg, Option.toList_some, Option.toList_none, List.cons_append, List.nil_append, B_nar, J1_nar, J0_nar, if_true, if_false, rd_wr_same, rd_wr_ne, true_and, and_true, B_0, B_1, not_true_eq_false, not_false_eq_true, rdE0, rdE1, rdE2, rdE3, rdE4, wE0, wE1, wE2, wE3, wE4, c1, c2, a1, a2, a3, a4, h1, h2, h3, this]
      · by_cases h3 : A1 n = q
        · have h4 : ¬ A2 n = p := fun e => h (Or.inr ⟨h3, e⟩)
          simp (disch := first | omega | exact Nat.le_of_ble_eq_true rfl) only [e49_0, e49_1, e49_3, e49_4, e49_7, e49_10, e49_11, e49_14, e49_15, e49_18, e49_20, e49_21, e49_24, e49_25, e49_28, e49_30, e49_32, e49_33, e49_36, e49_38, e49_39, e49_42, e49_44, e49_45, e49_48, e49_50, e49_51, e49_54, e49_55, e49_56, e49_59, e49_62, e49_63, J_add, J_sub, J_mul, J_neg, J_lt, J_le, J_eq, gArr_J, gAst_J, gSiz_J, gFld_o, gUpd_o0, gUpd_o1, gUpd_o2, gUpd_o3, gUpd_o4, gUpd_o5, gUpd_o6, gUpd_o7, gUpd_o8, gUpd_o9, gUpd_o10, gUpd_o11, gUpd_o12, gUpd_o13, gUpd_o14, gUpd_o15, gUpd_o16, gUpd_o17, gUpd_o18, gIsO_o, Option.bind_some, List.getElem?_cons_zero, List.getElem?_cons_succ, List.length_cons, List.length_nil, List.set_cons_zero, List.set_cons_succ, gCat_nil, gCat_int, gCat_ref, if_pos, if_neg, Option.toList_some, Option.toList_none, List.cons_append, List.nil_append, B_nar, J1_nar, J0_nar, if_true, if_false, rd_wr_same, rd_wr_ne, true_and, and_true, B_0, B_1, not_true_eq_false, not_false_eq_true, rdE0, rdE1, rdE2, rdE3, rdE4, wE0, wE1, wE2, wE3, wE4, c1, c2, a1, a2, a3, a4, h1, h3, h4, this]
        · simp (disch := first | omega | exact Nat.le_of_ble_eq_true rfl) only [e49_0, e49_1, e49_3, e49_4, e49_7, e49_10, e49_11, e49_14, e49_15, e49_18, e49_20, e49_21, e49_24, e49_25, e49_28, e49_30, e49_32, e49_33, e49_36, e49_38, e49_39, e49_42, e49_44, e49_45, e49_48, e49_50, e49_51, e49_54, e49_55, e49_56, e49_59, e49_62, e49_63, J_add, J_sub, J_mul, J_neg, J_lt, J_le, J_eq, gArr_J, gAst_J, gSiz_J, gFld_o, gUpd_o0, gUpd_o1, gUpd_o2, gUpd_o3, gUpd_o4, gUpd_o5, gUpd_o6, gUpd_o7, gUpd_o8, gUpd_o9, gUpd_o10, gUpd_o11, gUpd_o12, gUpd_o13, gUpd_o14, gUpd_o15, gUpd_o16, gUpd_o17, gUpd_o18, gIsO_o, Option.bind_some, List.getElem?_cons_zero, List.getElem?_cons_succ, List.length_cons, List.length_nil, List.set_cons_zero, List.set_cons_succ, gCat_nil, gCat_int, gCat_ref, if_pos, if_neg, Option.toList_some, Option.toList_none, List.cons_append, List.nil_append, B_nar, J1_nar, J0_nar, if_true, if_false, rd_wr_same, rd_wr_ne, true_and, and_true, B_0, B_1, not_true_eq_false, not_false_eq_true, rdE0, rdE1, rdE2, rdE3, rdE4, wE0, wE1, wE2, wE3, wE4, c1, c2, a1, a2, a3, a4, h1, h3, this]

theorem s49 {nat : gNat} {d : Nat} {w : gWd} {x : Nat} {hd st lo bp bq : Int} {A1 A2 A3 A4 : Int → Int} (hx : x + 4 < gSTR) {N : Nat} (hN : hd = N) (hN8 : N ≤ 8) (hA : ∀ i : Int, 0 ≤ i → i < N → (0 ≤ A1 i ∧ A1 i < 8) ∧ (0 ≤ A2 i ∧ A2 i < 8)) {p q : Int} (hp : 0 ≤ p ∧ p < 8) (hq : 0 ≤ q ∧ q < 8) : gC nat (d + 2) 49 [.ref x, .int (J p), .int (J q)] (putE w x hd st lo bp bq A1 A2 A3 A4) = some (some (.int (B (isn A1 A2 p q N = true))), (putE w x hd st lo bp bq A1 A2 A3 A4)) := by
  rw [en49]
  have := l49 (nat := nat) (d := d) (w := w) (st := st) (lo := lo) (bp := bp) (bq := bq) (A3 := A3) (A4 := A4) hx hN hN8 hA hp hq N 0 none none (by omega) rfl
  simp (disch := first | omega | exact Nat.le_of_ble_eq_true rfl) only [e49_0, e49_1, e49_3, e49_4, e49_7, e49_10, e49_11, e49_14, e49_15, e49_18, e49_20, e49_21, e49_24, e49_25, e49_28, e49_30, e49_32, e49_33, e49_36, e49_38, e49_39, e49_42, e49_44, e49_45, e49_48, e49_50, e49_51, e49_54, e49_55, e49_56, e49_59, e49_62, e49_63, J_add, J_sub, J_mul, J_neg, J_lt, J_le, J_eq, gArr_J, gAst_J, gSiz_J, gFld_o, gUpd_o0, gUpd_o1, gUpd_o2, gUpd_o3, gUpd_o4, gUpd_o5, gUpd_o6, gUpd_o7, gUpd_o8, gUpd_o9, gUpd_o10, gUpd_o11, gUpd_o12, gUpd_o13, gUpd_o14, gUpd_o15, gUpd_o16, gUpd_o17, gUpd_o18, gIsO_o, Option.bind_some, List.getElem?_cons_zero, List.getElem?_cons_succ, List.length_cons, List.length_nil, List.set_cons_zero, List.set_cons_succ, gCat_nil, gCat_int, gCat_ref, if_pos, if_neg, Option.toList_some, Option.toList_none, List.cons_append, List.nil_append, B_nar, J1_nar, J0_nar, if_true, if_false, rd_wr_same, rd_wr_ne, true_and, and_true, B_0, B_1, not_true_eq_false, not_false_eq_true]
  exact this

def prt (X : Int → Int) (s p q : Int) : Int := if X (p * 8 + q) < s - X (p * 8 + q) then s - X (p * 8 + q) else X (p * 8 + q)
def chs (A1 A2 X : Int → Int) (N : Nat) (s p q : Int) (b : Int × Int) : Int × Int := if isn A1 A2 p q N = false ∧ (b.1 = -4 ∨ prt X s p q < b.2) then (10 * p + q, prt X s p q) else b
def chI (A1 A2 X : Int → Int) (N : Nat) (s p : Int) : Nat → Int → Int × Int → Int × Int
  | 0, _, b => b
  | k + 1, q, b => chI A1 A2 X N s p k (q + 1) (chs A1 A2 X N s p q b)
def chO (A1 A2 X : Int → Int) (N : Nat) (s P : Int) : Nat → Int → Int × Int → Int × Int
  | 0, _, b => b
  | k + 1, p, b => chO A1 A2 X N s P k (p + 1) (chI A1 A2 X N s p (P - (p + 1)).toNat (p + 1) b)
def bOK (b : Int × Int) : Prop := (-4 ≤ b.1 ∧ b.1 < 1000) ∧ (-4 ≤ b.2 ∧ b.2 < 1000)
theorem chs_ok {A1 A2 X : Int → Int} {N : Nat} {s p q : Int} {b : Int × Int} (hb : bOK b) (hp : 0 ≤ p ∧ p < 8) (hq : 0 ≤ q ∧ q < 8) (hX : ∀ i, 0 ≤ X i ∧ X i ≤ s) (hs : 0 ≤ s ∧ s ≤ 256) : bOK (chs A1 A2 X N s p q b) := by
  have h1 := hX (p * 8 + q)
  unfold chs
  split
  · refine ⟨?_, ?_⟩
    · show -4 ≤ 10 * p + q ∧ 10 * p + q < 1000
      omega
    · show -4 ≤ prt X s p q ∧ prt X s p q < 1000
      unfold prt
      split <;> omega
  · exact hb
theorem chI_ok {A1 A2 X : Int → Int} {N : Nat} {s p : Int} (hp : 0 ≤ p ∧ p < 8) (hX : ∀ i, 0 ≤ X i ∧ X i ≤ s) (hs : 0 ≤ s ∧ s ≤ 256) : ∀ (k : Nat) (q : Int) (b : Int × Int), bOK b → 0 ≤ q → q + k ≤ 8 → bOK (chI A1 A2 X N s p k q b) := by
  intro k
  induction k with
  | zero => intro q b hb _ _; exact hb
  | succ k ih =>
    intro q b hb h0 h8
    exact ih (q + 1) _ (chs_ok hb hp ⟨h0, by omega⟩ hX hs) (by omega) (by omega)
theorem l48i {nat : gNat} {d : Nat} {w : gWd} {x m : Nat} {K : Lay} {hd st lo : Int} {A1 A2 A3 A4 : Int → Int} (hx : x + 4 < gSTR) (hm : isMe w m K) (hK : vK K) (hmx : m + 3 < x ∨ x + 4 < m) {N : Nat} (hN : hd = N) (hN8 : N ≤ 8) (hA : ∀ i : Int, 0 ≤ i → i < N → (0 ≤ A1 i ∧ A1 i < 8) ∧ (0 ≤ A2 i ∧ A2 i < 8)) (hX : ∀ i, 0 ≤ A4 i ∧ A4 i ≤ st) (hs : 0 ≤ st ∧ st ≤ 256) {p : Int} (hp : 0 ≤ p ∧ p < K 0 0) : ∀ (k : Nat) (q : Int) (z1 z2 : Option Value) (b : Int × Int), q + k = K 0 0 → 0 ≤ q → bOK b → ∃ z1' z2', gX (gC nat (d + 2)) nat 48 35 [some (.ref x), some (.ref m), some (.int (J p)), some (.int (J q)), z1, z2] [] [] (putE w x hd st lo b.1 b.2 A1 A2 A3 A4) = gX (gC nat (d + 2)) nat 48 121 [some (.ref x), some (.ref m), some (.int (J p)), some (.int (J (K 0 0))), z1', z2'] [] [] (putE w x hd st lo (chI A1 A2 A4 N st p k q b).1 (chI A1 A2 A4 N st p k q b).2 A1 A2 A3 A4) := by
  have k0 := hK.1
  have r0 : ∀ bp bq, rd (putE w x hd st lo bp bq A1 A2 A3 A4) m = oC 2 [.int (J (K 0 0)), .int (J (K 0 1)), .int (J (K 0 2)), .int (J (K 0 3)), .int (J (K 0 4)), .ref (m + 1), .ref (m + 2), .ref (m + 3)] := fun bp bq => by rw [rdEn (by omega)]; exact hm.2.1
  intro k
  induction k with
  | zero =>
    intro q z1 z2 b hq h0 hb
    have e0 : q = K 0 0 := by omega
    subst e0
    refine ⟨z1, z2, ?_⟩
    rw [chI, e48_35]
    simp (disch := first | omega | exact Nat.le_of_ble_eq_true rfl) only [e48_0, e48_1, e48_3, e48_6, e48_7, e48_9, e48_12, e48_13, e48_16, e48_17, e48_20, e48_21, e48_22, e48_23, e48_24, e48_25, e48_28, e48_31, e48_32, e48_33, e48_34, e48_36, e48_37, e48_40, e48_43, e48_44, e48_47, e48_48, e48_50, e48_51, e48_52, e48_53, e48_56, e48_58, e48_60, e48_61, e48_64, e48_66, e48_67, e48_70, e48_72, e48_73, e48_74, e48_75, e48_78, e48_81, e48_82, e48_85, e48_87, e48_90, e48_92, e48_93, e48_96, e48_99, e48_100, e48_102, e48_103, e48_104, e48_105, e48_106, e48_109, e48_110, e48_112, e48_115, e48_118, e48_124, e48_127, J_add, J_sub, J_mul, J_neg, J_lt, J_le, J_eq, gArr_J, gAst_J, gSiz_J, gFld_o, gUpd_o0, gUpd_o1, gUpd_o2, gUpd_o3, gUpd_o4, gUpd_o5, gUpd_o6, gUpd_o7, gUpd_o8, gUpd_o9, gUpd_o10, gUpd_o11, gUpd_o12, gUpd_o13, gUpd_o14, gUpd_o15, gUpd_o16, gUpd_o17, gUpd_o18, gIsO_o, Option.bind_some, List.getElem?_cons_zero, List.getElem?_cons_succ, List.length_cons, List.length_nil, List.set_cons_zero, List.set_cons_succ, gCat_nil, gCat_int, gCat_ref, if_pos, if_neg, Option.toList_some, Option.toList_none, List.cons_append, List.nil_append, B_nar, J1_nar, J0_nar, if_true, if_false, rd_wr_same, rd_wr_ne, true_and, and_true, B_0, B_1, not_true_eq_false, not_false_eq_true, rdE0, rdE1, rdE2, rdE3, rdE4, wE0, wE1, wE2, wE3, wE4, r0]
  | succ k ih =>
    intro q z1 z2 b hq h0 hb
    have hb2 := chs_ok (A1 := A1) (A2 := A2) (N := N) hb (p := p) (q := q) (by omega) (by omega) hX hs
    obtain ⟨z1', z2', hz⟩ := ih (q + 1) (some (.int (J (A4 (p * 8 + q))))) (some (.int (J (prt A4 st p q)))) _ (by omega) (by omega) hb2
    refine ⟨z1', z2', ?_⟩
    have c1 := s117 (nat := nat) (d := d + 1) (w := (putE w x hd st lo b.1 b.2 A1 A2 A3 A4)) (a := x + 4) (n := 64) (f := A4) (i := p * 8 + q) rdE4 hx (by omega) (by omega)
    have c2 := s49 (nat := nat) (d := d) (w := w) (st := st) (lo := lo) (bp := b.1) (bq := b.2) (A3 := A3) (A4 := A4) hx hN hN8 hA (p := p) (q := q) (by omega) (by omega)
    have hv := hX (p * 8 + q)
    obtain ⟨g1, g2⟩ := id hb
    have a1 : (J b.1 = J (-4)) = (b.1 = -4) := J_eq (by omega) (by omega)
    rw [chI, ← hz, e48_35]
    unfold chs
    by_cases h1 : A4 (p * 8 + q) < st - A4 (p * 8 + q)
    · have ep : prt A4 st p q = st - A4 (p * 8 + q) := if_pos h1
      rw [ep]
      by_cases h2 : isn A1 A2 p q N = true
      · rw [B_pos h2] at c2
        rw [if_neg (fun e => by rw [h2] at e; exact absurd e.1 (by decide))]
        simp (disch := first | omega | exact Nat.le_of_ble_eq_true rfl) only [e48_0, e48_1, e48_3, e48_6, e48_7, e48_9, e48_12, e48_13, e48_16, e48_17, e48_20, e48_21, e48_22, e48_23, e48_24, e48_25, e48_28, e48_31, e48_32, e48_33, e48_34, e48_36, e48_37, e48_40, e48_43, e48_44, e48_47, e48_48, e48_50, e48_51, e48_52, e48_53, e48_56, e48_58, e48_60, e48_61, e48_64, e48_66, e48_67, e48_70, e48_72, e48_73, e48_74, e48_75, e48_78, e48_81, e48_82, e48_85, e48_87, e48_90, e48_92, e48_93, e48_96, e48_99, e48_100, e48_102, e48_103, e48_104, e48_105, e48_106, e48_109, e48_110, e48_112, e48_115, e48_118, e48_124, e48_127, J_add, J_sub, J_mul, J_neg, J_lt, J_le, J_eq, gArr_J, gAst_J, gSiz_J, gFld_o, gUpd_o0, gUpd_o1, gUpd_o2, gUpd_o3, gUpd_o4, gUpd_o5, gUpd_o6, gUpd_o7, gUpd_o8, gUpd_o9, gUpd_o10, gUpd_o11, gUpd_o12, gUpd_o13, gUpd_o14, gUpd_o15, gUpd_o16, gUpd_o17, gUpd_o18, gIsO_o, Option.bind_some, List.getElem?_cons_zero, List.getElem?_cons_succ, List.length_cons, List.length_nil, List.set_cons_zero, List.set_cons_succ, gCat_nil, gCat_int, gCat_ref, if_pos, if_neg, Option.toList_some, Option.toList_none, List.cons_append, List.nil_append, B_nar, J1_nar, J0_nar, if_true, if_false, rd_wr_same, rd_wr_ne, true_and, and_true, B_0, B_1, not_true_eq_false, not_false_eq_true, rdE0, rdE1, rdE2, rdE3, rdE4, wE0, wE1, wE2, wE3, wE4, r0, c1, c2, h1]
      · rw [B_neg h2] at c2
        have h2 : isn A1 A2 p q N = false := by cases hh : isn A1 A2 p q N <;> first | rfl | exact absurd hh h2
        by_cases h3 : b.1 = -4
        · have a1 : (J b.1 = J (-4)) = True := by rw [a1]; exact eq_true h3
          rw [if_pos ⟨h2, Or.inl h3⟩]
          simp (disch := first | omega | exact Nat.le_of_ble_eq_true rfl) only [e48_0, e48_1, e48_3, e48_6, e48_7, e48_9, e48_12, e48_13, e48_16, e48_17, e48_20, e48_21, e48_22, e48_23, e48_24, e48_25, e48_28, e48_31, e48_32, e48_33, e48_34, e48_36, e48_37, e48_40, e48_43, e48_44, e48_47, e48_48, e48_50, e48_51, e48_52, e48_53, e48_56, e48_58, e48_60, e48_61, e48_64, e48_66, e48_67, e48_70, e48_72, e48_73, e48_74, e48_75, e48_78, e48_81, e48_82, e48_85, e48_87, e48_90, e48_92, e48_93, e48_96, e48_99, e48_100, e48_102, e48_103, e48_104, e48_105, e48_106, e48_109, e48_110, e48_112, e48_115, e48_118, e48_124, e48_127, J_add, J_sub, J_mul, J_neg, J_lt, J_le, J_eq, gArr_J, gAst_J, gSiz_J, gFld_o, gUpd_o0, gUpd_o1, gUpd_o2, gUpd_o3, gUpd_o4, gUpd_o5, gUpd_o6, gUpd_o7, gUpd_o8, gUpd_o9, gUpd_o10, gUpd_o11, gUpd_o12, gUpd_o13, gUpd_o14, gUpd_o15, gUpd_o16, gUpd_o17, gUpd_o18, gIsO_o, Option.bind_some, List.getElem?_cons_zero, List.getElem?_cons_succ, List.length_cons, List.length_nil, List.set_cons_zero, List.set_cons_succ, gCat_nil, gCat_int, gCat_ref, if_pos, if_neg, Option.toList_some, Option.toList_none, List.cons_append, List.nil_append, B_nar, J1_nar, J0_nar, if_true, if_false, rd_wr_same, rd_wr_ne, true_and, and_true, B_0, B_1, not_true_eq_false, not_false_eq_true, rdE0, rdE1, rdE2, rdE3, rdE4, wE0, wE1, wE2, wE3, wE4, r0, c1, c2, h1, a1, Int.mul_comm p 10]
        · by_cases h4 : st - A4 (p * 8 + q) < b.2
          · rw [if_pos ⟨h2, Or.inr h4⟩]
            simp (disch := first | omega | exact Nat.le_of_ble_eq_true rfl) only [e48_0, e48_1, e48_3, e48_6, e48_7, e48_9, e48_12, e48_13, e48_16, e48_17, e48_20, e48_21, e48_22, e48_23, e48_24, e48_25, e48_28, e48_31, e48_32, e48_33, e48_34, e48_36, e48_37, e48_40, e48_43, e48_44, e48_47, e48_48, e48_50, e48_51, e48_52, e48_53, e48_56, e48_58, e48_60, e48_61, e48_64, e48_66, e48_67, e48_70, e48_72, e48_73, e48_74, e48_75, e48_78, e48_81, e48_82, e48_85, e48_87, e48_90, e48_92, e48_93, e48_96, e48_99, e48_100, e48_102, e48_103, e48_104, e48_105, e48_106, e48_109, e48_110, e48_112, e48_115, e48_118, e48_124, e48_127, J_add, J_sub, J_mul, J_neg, J_lt, J_le, J_eq, gArr_J, gAst_J, gSiz_J, gFld_o, gUpd_o0, gUpd_o1, gUpd_o2, gUpd_o3, gUpd_o4, gUpd_o5, gUpd_o6, gUpd_o7, gUpd_o8, gUpd_o9, gUpd_o10, gUpd_o11, gUpd_o12, gUpd_o13, gUpd_o14, gUpd_o15, gUpd_o16, gUpd_o17, gUpd_o18, gIsO_o, Option.bind_some, List.getElem?_cons_zero, List.getElem?_cons_succ, List.length_cons, List.length_nil, List.set_cons_zero, List.set_cons_succ, gCat_nil, gCat_int, gCat_ref, if_pos, if_neg, Option.toList_some, Option.toList_none, List.cons_append, List.nil_append, B_nar, J1_nar, J0_nar, if_true, if_false, rd_wr_same, rd_wr_ne, true_and, and_true, B_0, B_1, not_true_eq_false, not_false_eq_true, rdE0, rdE1, rdE2, rdE3, rdE4, wE0, wE1, wE2, wE3, wE4, r0, c1, c2, h1, a1, h3, h4]
          · rw [if_neg (fun e => e.2.elim h3 h4)]
            simp (disch := first | omega | exact Nat.le_of_ble_eq_true rfl) only [e48_0, e48_1, e48_3, e48_6, e48_7, e48_9, e48_12, e48_13, e48_16, e48_17, e48_20, e48_21, e48_22, e48_23, e48_24, e48_25, e48_28, e48_31, e48_32, e48_33, e48_34, e48_36, e48_37, e48_40, e48_43, e48_44, e48_47, e48_48, e48_50, e48_51, e48_52, e48_53, e48_56, e48_58, e48_60, e48_61, e48_64, e48_66, e48_67, e48_70, e48_72, e48_73, e48_74, e48_75, e48_78, e48_81, e48_82, e48_85, e48_87, e48_90, e48_92, e48_93, e48_96, e48_99, e48_100, e48_102, e48_103, e48_104, e48_105, e48_106, e48_109, e48_110, e48_112, e48_115, e48_118, e48_124, e48_127, J_add, J_sub, J_mul, J_neg, J_lt, J_le, J_eq, gArr_J, gAst_J, gSiz_J, gFld_o, gUpd_o0, gUpd_o1, gUpd_o2, gUpd_o3, gUpd_o4, gUpd_o5, gUpd_o6, gUpd_o7, gUpd_o8, gUpd_o9, gUpd_o10, gUpd_o11, gUpd_o12, gUpd_o13, gUpd_o14, gUpd_o15, gUpd_o16, gUpd_o17, gUpd_o18, gIsO_o, Option.bind_some, List.getElem?_cons_zero, List.getElem?_cons_succ, List.length_cons, List.length_nil, List.set_cons_zero, List.set_cons_succ, gCat_nil, gCat_int, gCat_ref, if_pos, if_neg, Option.toList_some, Option.toList_none, List.cons_append, List.nil_append, B_nar, J1_nar, J0_nar, if_true, if_false, rd_wr_same, rd_wr_ne, true_and, and_true, B_0, B_1, not_true_eq_false, not_false_eq_true, rdE0, rdE1, rdE2, rdE3, rdE4, wE0, wE1, wE2, wE3, wE4, r0, c1, c2, h1, a1, h3, h4]
    · have ep : prt A4 st p q = A4 (p * 8 + q) := if_neg h1
      rw [ep]
      by_cases h2 : isn A1 A2 p q N = true
      · rw [B_pos h2] at c2
        rw [if_neg (fun e => by rw [h2] at e; exact absurd e.1 (by decide))]
        simp (disch := first | omega | exact Nat.le_of_ble_eq_true rfl) only [e48_0, e48_1, e48_3, e48_6, e48_7, e48_9, e48_12, e48_13, e48_16, e48_17, e48_20, e48_21, e48_22, e48_23, e48_24, e48_25, e48_28, e48_31, e48_32, e48_33, e48_34, e48_36, e48_37, e48_40, e48_43, e48_44, e48_47, e48_48, e48_50, e48_51, e48_52, e48_53, e48_56, e48_58, e48_60, e48_61, e48_64, e48_66, e48_67, e48_70, e48_72, e48_73, e48_74, e48_75, e48_78, e48_81, e48_82, e48_85, e48_87, e48_90, e48_92, e48_93, e48_96, e48_99, e48_100, e48_102, e48_103, e48_104, e48_105, e48_106, e48_109, e48_110, e48_112, e48_115, e48_118, e48_124, e48_127, J_add, J_sub, J_mul, J_neg, J_lt, J_le, J_eq, gArr_J, gAst_J, gSiz_J, gFld_o, gUpd_o0, gUpd_o1, gUpd_o2, gUpd_o3, gUpd_o4, gUpd_o5, gUpd_o6, gUpd_o7, gUpd_o8, gUpd_o9, gUpd_o10, gUpd_o11, gUpd_o12, gUpd_o13, gUpd_o14, gUpd_o15, gUpd_o16, gUpd_o17, gUpd_o18, gIsO_o, Option.bind_some, List.getElem?_cons_zero, List.getElem?_cons_succ, List.length_cons, List.length_nil, List.set_cons_zero, List.set_cons_succ, gCat_nil, gCat_int, gCat_ref, if_pos, if_neg, Option.toList_some, Option.toList_none, List.cons_append, List.nil_append, B_nar, J1_nar, J0_nar, if_true, if_false, rd_wr_same, rd_wr_ne, true_and, and_true, B_0, B_1, not_true_eq_false, not_false_eq_true, rdE0, rdE1, rdE2, rdE3, rdE4, wE0, wE1, wE2, wE3, wE4, r0, c1, c2, h1]
      · rw [B_neg h2] at c2
        have h2 : isn A1 A2 p q N = false := by cases hh : isn A1 A2 p q N <;> first | rfl | exact absurd hh h2
        by_cases h3 : b.1 = -4
        · have a1 : (J b.1 = J (-4)) = True := by rw [a1]; exact eq_true h3
          rw [if_pos ⟨h2, Or.inl h3⟩]
          simp (disch := first | omega | exact Nat.le_of_ble_eq_true rfl) only [e48_0, e48_1, e48_3, e48_6, e48_7, e48_9, e48_12, e48_13, e48_16, e48_17, e48_20, e48_21, e48_22, e48_23, e48_24, e48_25, e48_28, e48_31, e48_32, e48_33, e48_34, e48_36, e48_37, e48_40, e48_43, e48_44, e48_47, e48_48, e48_50, e48_51, e48_52, e48_53, e48_56, e48_58, e48_60, e48_61, e48_64, e48_66, e48_67, e48_70, e48_72, e48_73, e48_74, e48_75, e48_78, e48_81, e48_82, e48_85, e48_87, e48_90, e48_92, e48_93, e48_96, e48_99, e48_100, e48_102, e48_103, e48_104, e48_105, e48_106, e48_109, e48_110, e48_112, e48_115, e48_118, e48_124, e48_127, J_add, J_sub, J_mul, J_neg, J_lt, J_le, J_eq, gArr_J, gAst_J, gSiz_J, gFld_o, gUpd_o0, gUpd_o1, gUpd_o2, gUpd_o3, gUpd_o4, gUpd_o5, gUpd_o6, gUpd_o7, gUpd_o8, gUpd_o9, gUpd_o10, gUpd_o11, gUpd_o12, gUpd_o13, gUpd_o14, gUpd_o15, gUpd_o16, gUpd_o17, gUpd_o18, gIsO_o, Option.bind_some, List.getElem?_cons_zero, List.getElem?_cons_succ, List.length_cons, List.length_nil, List.set_cons_zero, List.set_cons_succ, gCat_nil, gCat_int, gCat_ref, if_pos, if_neg, Option.toList_some, Option.toList_none, List.cons_append, List.nil_append, B_nar, J1_nar, J0_nar, if_true, if_false, rd_wr_same, rd_wr_ne, true_and, and_true, B_0, B_1, not_true_eq_false, not_false_eq_true, rdE0, rdE1, rdE2, rdE3, rdE4, wE0, wE1, wE2, wE3, wE4, r0, c1, c2, h1, a1, Int.mul_comm p 10]
        · by_cases h4 : A4 (p * 8 + q) < b.2
          · rw [if_pos ⟨h2, Or.inr h4⟩]
            simp (disch := first | omega | exact Nat.le_of_ble_eq_true rfl) only [e48_0, e48_1, e48_3, e48_6, e48_7, e48_9, e48_12, e48_13, e48_16, e48_17, e48_20, e48_21, e48_22, e48_23, e48_24, e48_25, e48_28, e48_31, e48_32, e48_33, e48_34, e48_36, e48_37, e48_40, e48_43, e48_44, e48_47, e48_48, e48_50, e48_51, e48_52, e48_53, e48_56, e48_58, e48_60, e48_61, e48_64, e48_66, e48_67, e48_70, e48_72, e48_73, e48_74, e48_75, e48_78, e48_81, e48_82, e48_85, e48_87, e48_90, e48_92, e48_93, e48_96, e48_99, e48_100, e48_102, e48_103, e48_104, e48_105, e48_106, e48_109, e48_110, e48_112, e48_115, e48_118, e48_124, e48_127, J_add, J_sub, J_mul, J_neg, J_lt, J_le, J_eq, gArr_J, gAst_J, gSiz_J, gFld_o, gUpd_o0, gUpd_o1, gUpd_o2, gUpd_o3, gUpd_o4, gUpd_o5, gUpd_o6, gUpd_o7, gUpd_o8, gUpd_o9, gUpd_o10, gUpd_o11, gUpd_o12, gUpd_o13, gUpd_o14, gUpd_o15, gUpd_o16, gUpd_o17, gUpd_o18, gIsO_o, Option.bind_some, List.getElem?_cons_zero, List.getElem?_cons_succ, List.length_cons, List.length_nil, List.set_cons_zero, List.set_cons_succ, gCat_nil, gCat_int, gCat_ref, if_pos, if_neg, Option.toList_some, Option.toList_none, List.cons_append, List.nil_append, B_nar, J1_nar, J0_nar, if_true, if_false, rd_wr_same, rd_wr_ne, true_and, and_true, B_0, B_1, not_true_eq_false, not_false_eq_true, rdE0, rdE1, rdE2, rdE3, rdE4, wE0, wE1, wE2, wE3, wE4, r0, c1, c2, h1, a1, h3, h4]
          · rw [if_neg (fun e => e.2.elim h3 h4)]
            simp (disch := first | omega | exact Nat.le_of_ble_eq_true rfl) only [e48_0, e48_1, e48_3, e48_6, e48_7, e48_9, e48_12, e48_13, e48_16, e48_17, e48_20, e48_21, e48_22, e48_23, e48_24, e48_25, e48_28, e48_31, e48_32, e48_33, e48_34, e48_36, e48_37, e48_40, e48_43, e48_44, e48_47, e48_48, e48_50, e48_51, e48_52, e48_53, e48_56, e48_58, e48_60, e48_61, e48_64, e48_66, e48_67, e48_70, e48_72, e48_73, e48_74, e48_75, e48_78, e48_81, e48_82, e48_85, e48_87, e48_90, e48_92, e48_93, e48_96, e48_99, e48_100, e48_102, e48_103, e48_104, e48_105, e48_106, e48_109, e48_110, e48_112, e48_115, e48_118, e48_124, e48_127, J_add, J_sub, J_mul, J_neg, J_lt, J_le, J_eq, gArr_J, gAst_J, gSiz_J, gFld_o, gUpd_o0, gUpd_o1, gUpd_o2, gUpd_o3, gUpd_o4, gUpd_o5, gUpd_o6, gUpd_o7, gUpd_o8, gUpd_o9, gUpd_o10, gUpd_o11, gUpd_o12, gUpd_o13, gUpd_o14, gUpd_o15, gUpd_o16, gUpd_o17, gUpd_o18, gIsO_o, Option.bind_some, List.getElem?_cons_zero, List.getElem?_cons_succ, List.length_cons, List.length_nil, List.set_cons_zero, List.set_cons_succ, gCat_nil, gCat_int, gCat_ref, if_pos, if_neg, Option.toList_some, Option.toList_none, List.cons_append, List.nil_append, B_nar, J1_nar, J0_nar, if_true, if_false, rd_wr_same, rd_wr_ne, true_and, and_true, B_0, B_1, not_true_eq_false, not_false_eq_true, rdE0, rdE1, rdE2, rdE3, rdE4, wE0, wE1, wE2, wE3, wE4, r0, c1, c2, h1, a1, h3, h4]
