/-- heaps: an object at h, its row at h + 1 -/
def isHp (w : gWd) (h : Nat) : Prop := h + 1 < gSTR ∧ rd w h = oC 1 [.ref (h + 1)]
def putH (w : gWd) (h : Nat) (f : Int → Int) : gWd := wr w (h + 1) (iC 8 (eI f))
theorem rdH0 {w : gWd} {h : Nat} {f : Int → Int} (hh : isHp w h) : rd (putH w h f) h = oC 1 [.ref (h + 1)] := by
  unfold putH
  rw [rd_wr_ne (by omega)]
  exact hh.2
theorem rdH1 {w : gWd} {h : Nat} {f : Int → Int} : rd (putH w h f) (h + 1) = iC 8 (eI f) := by
  unfold putH
  rw [rd_wr_same]
theorem rdHn {w : gWd} {h b : Nat} {f : Int → Int} (hb : b ≠ h + 1) : rd (putH w h f) b = rd w b := by
  unfold putH
  rw [rd_wr_ne hb]
theorem wH {w : gWd} {h : Nat} {f g : Int → Int} : wr (putH w h f) (h + 1) (iC 8 (eI g)) = putH w h g := by
  unfold putH
  rw [wr_wr]
theorem putH_congr {w : gWd} {h : Nat} {f g : Int → Int} (e : ∀ i, 0 ≤ i → f i = g i) : putH w h f = putH w h g := by
  unfold putH
  rw [show eI f = eI g from funext fun k => by unfold eI; rw [e k (by omega)]]
theorem isMe_putH {w : gWd} {h m : Nat} {f : Int → Int} {K : Lay} (hd : m + 3 < h + 1 ∨ h + 1 < m) (hm : isMe w m K) : isMe (putH w h f) m K := by
  obtain ⟨h0, h1, h2, h3, h4⟩ := hm
  exact ⟨h0, by rw [rdHn (by omega)]; exact h1, by rw [rdHn (by omega)]; exact h2, by rw [rdHn (by omega)]; exact h3, by rw [rdHn (by omega)]; exact h4⟩
def mrgI (f : Int → Int) (A B i : Int) : Int → Int := fun x => if i ≤ x ∧ x < 8 ∧ f x = B then A else f x
def mrg (f : Int → Int) (A B : Int) : Int → Int := if A = B then f else fun x => if 0 ≤ x ∧ x < 8 ∧ f x = B then A else f x
def lab (K : Lay) (s : Nat) : Nat → Int → Int
  | 0 => fun i => if i < 8 then i else 0
  | n + 1 => if s.testBit n = true then mrg (lab K s n) (lab K s n (K 1 (5 * (n : Int) + 1))) (lab K s n (K 1 (5 * (n : Int) + 2))) else lab K s n
theorem lab_in (K : Lay) (s : Nat) : ∀ (n : Nat), ((∀ g : Int, 0 ≤ g → g < (n : Int) → (0 ≤ K 1 (5 * g + 1) ∧ K 1 (5 * g + 1) < 8) ∧ (0 ≤ K 1 (5 * g + 2) ∧ K 1 (5 * g + 2) < 8)) → ∀ x, 0 ≤ x → x < 8 → 0 ≤ lab K s n x ∧ lab K s n x < 8) := by
  intro n
  induction n with
  | zero =>
    intro _ x h1 h2
    unfold lab
    rw [if_pos h2]
    exact ⟨h1, h2⟩
  | succ n ih =>
    intro hk x h1 h2
    have ih' := ih (fun g g1 g2 => hk g g1 (by omega))
    obtain ⟨q1, q2⟩ := hk n (by omega) (by omega)
    have b1 := ih' _ q1.1 q1.2
    have b2 := ih' x h1 h2
    unfold lab
    split
    · unfold mrg
      split
      · exact b2
      · dsimp only
        split
        · exact b1
        · exact b2
    · exact b2
theorem l8 {nat : gNat} {d : Nat} {w : gWd} {h : Nat} (hh : isHp w h) {A B : Int} (hA : 0 ≤ A ∧ A < 8) (hB : 0 ≤ B ∧ B < 8) (hAB : A ≠ B) : ∀ (k : Nat) (i : Int) (f : Int → Int), i + k = 8 → 0 ≤ i → (∀ x, 0 ≤ x → x < 8 → 0 ≤ f x ∧ f x < 8) → gX (gC nat (d + 1)) nat 8 8 [some (.ref h), some (.int (J A)), some (.int (J B)), some (.int (J i))] [] [] (putH w h f) = some (none, putH w h (mrgI f A B i)) := by
  have h1 := hh.1
  intro k
  induction k with
  | zero =>
    intro i f h0 h1 hf
    simp (disch := first | omega | exact Nat.le_of_ble_eq_true rfl) only [e8_0, e8_1, e8_2, e8_5, e8_6, e8_7, e8_8, e8_9, e8_11, e8_14, e8_15, e8_18, e8_19, e8_22, e8_23, e8_26, e8_27, e8_30, e8_31, e8_32, e8_35, e8_38, e8_41, J_add, J_sub, J_mul, J_neg, J_lt, J_le, J_eq, gArr_J, gAst_J, gSiz_J, gFld_o, gUpd_o0, gUpd_o1, gUpd_o2, gUpd_o3, gUpd_o4, gUpd_o5, gUpd_o6, gUpd_o7, gUpd_o8, gUpd_o9, gUpd_o10, gUpd_o11, gUpd_o12, gUpd_o13, gUpd_o14, gUpd_o15, gUpd_o16, gUpd_o17, gUpd_o18, gIsO_o, Option.bind_some, List.getElem?_cons_zero, List.getElem?_cons_succ, List.length_cons, List.length_nil, List.set_cons_zero, List.set_cons_succ, gCat_nil, gCat_int, gCat_ref, if_pos, if_neg, Option.toList_some, Option.toList_none, List.cons_append, List.nil_append, B_nar, J1_nar, J0_nar, if_true, if_false, rd_wr_same, rd_wr_ne, true_and, and_true, B_0, B_1, not_true_eq_false, not_false_eq_true, rdH0 hh]
    congr 2
    exact putH_congr fun x _ => by unfold mrgI; rw [if_neg (by omega)]
  | succ k ih =>
    intro i f h0 hi hf
    have hb := hf i hi (by omega)
    have c1 := s117 (nat := nat) (d := d) (w := putH w h f) (a := h + 1) (n := 8) (f := f) (i := i) rdH1 h1 (by omega) (by omega)
    have c2 : gC nat (d + 1) 118 [.ref (h + 1), .int (J i), .int (J A)] (putH w h f) = some (none, putH w h (fset f i A)) := by rw [s118 rdH1 h1 (by omega) (by omega), wH]
    rw [e8_8]
    by_cases hq : f i = B
    · rw [hq] at c1
      simp (disch := first | omega | exact Nat.le_of_ble_eq_true rfl) only [e8_0, e8_1, e8_2, e8_5, e8_6, e8_7, e8_9, e8_11, e8_14, e8_15, e8_18, e8_19, e8_22, e8_23, e8_26, e8_27, e8_30, e8_31, e8_32, e8_35, e8_38, e8_41, J_add, J_sub, J_mul, J_neg, J_lt, J_le, J_eq, gArr_J, gAst_J, gSiz_J, gFld_o, gUpd_o0, gUpd_o1, gUpd_o2, gUpd_o3, gUpd_o4, gUpd_o5, gUpd_o6, gUpd_o7, gUpd_o8, gUpd_o9, gUpd_o10, gUpd_o11, gUpd_o12, gUpd_o13, gUpd_o14, gUpd_o15, gUpd_o16, gUpd_o17, gUpd_o18, gIsO_o, Option.bind_some, List.getElem?_cons_zero, List.getElem?_cons_succ, List.length_cons, List.length_nil, List.set_cons_zero, List.set_cons_succ, gCat_nil, gCat_int, gCat_ref, if_pos, if_neg, Option.toList_some, Option.toList_none, List.cons_append, List.nil_append, B_nar, J1_nar, J0_nar, if_true, if_false, rd_wr_same, rd_wr_ne, true_and, and_true, B_0, B_1, not_true_eq_false, not_false_eq_true, rdH0 hh, c1, c2]
      rw [ih (i + 1) (fset f i A) (by omega) (by omega) (fun x q1 q2 => by
        by_cases q : x = i
        · subst q; rw [fset_at]; exact hA
        · rw [fset_ne q]; exact hf x q1 q2)]
      congr 2
      refine putH_congr fun x _ => ?_
      unfold mrgI fset
      by_cases q : x = i
      · subst q
        rw [if_neg (by omega), if_pos rfl, if_pos ⟨by omega, by omega, hq⟩]
      · simp only [q, if_false]
        repeat' split
        all_goals first | rfl | omega
    · have hne : ¬ (J (f i) = J B) := by rw [J_eq (by omega) (by omega)]; exact hq
      simp (disch := first | omega | exact Nat.le_of_ble_eq_true rfl) only [e8_0, e8_1, e8_2, e8_5, e8_6, e8_7, e8_9, e8_11, e8_14, e8_15, e8_18, e8_19, e8_22, e8_23, e8_26, e8_27, e8_30, e8_31, e8_32, e8_35, e8_38, e8_41, J_add, J_sub, J_mul, J_neg, J_lt, J_le, J_eq, gArr_J, gAst_J, gSiz_J, gFld_o, gUpd_o0, gUpd_o1, gUpd_o2, gUpd_o3, gUpd_o4, gUpd_o5, gUpd_o6, gUpd_o7, gUpd_o8, gUpd_o9, gUpd_o10, gUpd_o11, gUpd_o12, gUpd_o13, gUpd_o14, gUpd_o15, gUpd_o16, gUpd_o17, gUpd_o18, gIsO_o, Option.bind_some, List.getElem?_cons_zero, List.getElem?_cons_succ, List.length_cons, List.length_nil, List.set_cons_zero, List.set_cons_succ, gCat_nil, gCat_int, gCat_ref, if_pos, if_neg, Option.toList_some, Option.toList_none, List.cons_append, List.nil_append, B_nar, J1_nar, J0_nar, if_true, if_false, rd_wr_same, rd_wr_ne, true_and, and_true, B_0, B_1, not_true_eq_false, not_false_eq_true, rdH0 hh, c1, hne]
      rw [ih (i + 1) f (by omega) (by omega) hf]
      congr 2
      refine putH_congr fun x _ => ?_
      unfold mrgI
      by_cases q : x = i
      · subst q
        rw [if_neg (by omega), if_neg (fun q => hq q.2.2)]
      · repeat' split
        all_goals first | rfl | omega

theorem s8 {nat : gNat} {d : Nat} {w : gWd} {h : Nat} {f : Int → Int} (hh : isHp w h) {A B : Int} (hA : 0 ≤ A ∧ A < 8) (hB : 0 ≤ B ∧ B < 8) (hf : ∀ x, 0 ≤ x → x < 8 → 0 ≤ f x ∧ f x < 8) : gC nat (d + 2) 8 [.ref h, .int (J A), .int (J B)] (putH w h f) = some (none, putH w h (mrg f A B)) := by
  rw [en8]
  unfold mrg
  by_cases hq : A = B
  · rw [if_pos hq]
    subst hq
    simp (disch := first | omega | exact Nat.le_of_ble_eq_true rfl) only [e8_0, e8_1, e8_2, e8_5, e8_6, e8_7, e8_9, e8_11, e8_14, e8_15, e8_18, e8_19, e8_22, e8_23, e8_26, e8_27, e8_30, e8_31, e8_32, e8_35, e8_38, e8_41, J_add, J_sub, J_mul, J_neg, J_lt, J_le, J_eq, gArr_J, gAst_J, gSiz_J, gFld_o, gUpd_o0, gUpd_o1, gUpd_o2, gUpd_o3, gUpd_o4, gUpd_o5, gUpd_o6, gUpd_o7, gUpd_o8, gUpd_o9, gUpd_o10, gUpd_o11, gUpd_o12, gUpd_o13, gUpd_o14, gUpd_o15, gUpd_o16, gUpd_o17, gUpd_o18, gIsO_o, Option.bind_some, List.getElem?_cons_zero, List.getElem?_cons_succ, List.length_cons, List.length_nil, List.set_cons_zero, List.set_cons_succ, gCat_nil, gCat_int, gCat_ref, if_pos, if_neg, Option.toList_some, Option.toList_none, List.cons_append, List.nil_append, B_nar, J1_nar, J0_nar, if_true, if_false, rd_wr_same, rd_wr_ne, true_and, and_true, B_0, B_1, not_true_eq_false, not_false_eq_true, rdH0 hh]
  · rw [if_neg hq]
    have hne : ¬ (J A = J B) := by rw [J_eq (by omega) (by omega)]; exact hq
    simp (disch := first | omega | exact Nat.le_of_ble_eq_true rfl) only [e8_0, e8_1, e8_2, e8_5, e8_6, e8_7, e8_9, e8_11, e8_14, e8_15, e8_18, e8_19, e8_22, e8_23, e8_26, e8_27, e8_30, e8_31, e8_32, e8_35, e8_38, e8_41, J_add, J_sub, J_mul, J_neg, J_lt, J_le, J_eq, gArr_J, gAst_J, gSiz_J, gFld_o, gUpd_o0, gUpd_o1, gUpd_o2, gUpd_o3, gUpd_o4, gUpd_o5, gUpd_o6, gUpd_o7, gUpd_o8, gUpd_o9, gUpd_o10, gUpd_o11, gUpd_o12, gUpd_o13, gUpd_o14, gUpd_o15, gUpd_o16, gUpd_o17, gUpd_o18, gIsO_o, Option.bind_some, List.getElem?_cons_zero, List.getElem?_cons_succ, List.length_cons, List.length_nil, List.set_cons_zero, List.set_cons_succ, gCat_nil, gCat_int, gCat_ref, if_pos, if_neg, Option.toList_some, Option.toList_none, List.cons_append, List.nil_append, B_nar, J1_nar, J0_nar, if_true, if_false, rd_wr_same, rd_wr_ne, true_and, and_true, B_0, B_1, not_true_eq_false, not_false_eq_true, rdH0 hh, hne]
    exact l8 hh hA hB hq 8 0 f (by omega) (by omega) hf

theorem s9 {nat : gNat} {d : Nat} {w : gWd} {h : Nat} {f : Int → Int} (hh : isHp w h) {x y : Int} (hx : 0 ≤ x ∧ x < 8) (hy : 0 ≤ y ∧ y < 8) (hf : ∀ x, 0 ≤ x → x < 8 → 0 ≤ f x ∧ f x < 8) : gC nat (d + 2) 9 [.ref h, .int (J x), .int (J y)] (putH w h f) = some (some (.int (B (f x = f y))), putH w h f) := by
  rw [en9]
  have h1 := hh.1
  have b1 := hf x hx.1 hx.2
  have b2 := hf y hy.1 hy.2
  have c1 := s117 (nat := nat) (d := d) (w := putH w h f) (a := h + 1) (n := 8) (f := f) (i := x) rdH1 h1 (by omega) (by omega)
  have c2 := s117 (nat := nat) (d := d) (w := putH w h f) (a := h + 1) (n := 8) (f := f) (i := y) rdH1 h1 (by omega) (by omega)
  by_cases hq : f x = f y
  · rw [B_pos hq]
    rw [hq] at c1
    simp (disch := first | omega | exact Nat.le_of_ble_eq_true rfl) only [e9_0, e9_1, e9_4, e9_5, e9_8, e9_9, e9_12, e9_13, e9_16, e9_19, e9_20, e9_23, e9_24, J_add, J_sub, J_mul, J_neg, J_lt, J_le, J_eq, gArr_J, gAst_J, gSiz_J, gFld_o, gUpd_o0, gUpd_o1, gUpd_o2, gUpd_o3, gUpd_o4, gUpd_o5, gUpd_o6, gUpd_o7, gUpd_o8, gUpd_o9, gUpd_o10, gUpd_o11, gUpd_o12, gUpd_o13, gUpd_o14, gUpd_o15, gUpd_o16, gUpd_o17, gUpd_o18, gIsO_o, Option.bind_some, List.getElem?_cons_zero, List.getElem?_cons_succ, List.length_cons, List.length_nil, List.set_cons_zero, List.set_cons_succ, gCat_nil, gCat_int, gCat_ref, if_pos, if_neg, Option.toList_some, Option.toList_none, List.cons_append, List.nil_append, B_nar, J1_nar, J0_nar, if_true, if_false, rd_wr_same, rd_wr_ne, true_and, and_true, B_0, B_1, not_true_eq_false, not_false_eq_true, rdH0 hh, c1, c2]
  · rw [B_neg hq]
    have hne : ¬ (J (f x) = J (f y)) := by rw [J_eq (by omega) (by omega)]; exact hq
    simp (disch := first | omega | exact Nat.le_of_ble_eq_true rfl) only [e9_0, e9_1, e9_4, e9_5, e9_8, e9_9, e9_12, e9_13, e9_16, e9_19, e9_20, e9_23, e9_24, J_add, J_sub, J_mul, J_neg, J_lt, J_le, J_eq, gArr_J, gAst_J, gSiz_J, gFld_o, gUpd_o0, gUpd_o1, gUpd_o2, gUpd_o3, gUpd_o4, gUpd_o5, gUpd_o6, gUpd_o7, gUpd_o8, gUpd_o9, gUpd_o10, gUpd_o11, gUpd_o12, gUpd_o13, gUpd_o14, gUpd_o15, gUpd_o16, gUpd_o17, gUpd_o18, gIsO_o, Option.bind_some, List.getElem?_cons_zero, List.getElem?_cons_succ, List.length_cons, List.length_nil, List.set_cons_zero, List.set_cons_succ, gCat_nil, gCat_int, gCat_ref, if_pos, if_neg, Option.toList_some, Option.toList_none, List.cons_append, List.nil_append, B_nar, J1_nar, J0_nar, if_true, if_false, rd_wr_same, rd_wr_ne, true_and, and_true, B_0, B_1, not_true_eq_false, not_false_eq_true, rdH0 hh, c1, c2, hne]

theorem l7 {nat : gNat} {d : Nat} {w : gWd} {h m : Nat} {K : Lay} (hm : isMe w m K) (hK : vK K) (hd : m + 3 < h ∨ h + 1 < m) (hh : isHp w h) {s : Nat} (hs : s < 256) {N : Nat} (hN : (N : Int) = K 0 1) : ∀ (k n : Nat), n + k = N → gX (gC nat (d + 2)) nat 7 25 [some (.ref h), some (.ref m), some (.int (J s)), some (.int (J n))] [] [] (putH w h (lab K s n)) = some (none, putH w h (lab K s N)) := by
  have h1 := hh.1
  have hm' : ∀ f, isMe (putH w h f) m K := fun f => isMe_putH (by omega) hm
  obtain ⟨k0, k1, k2, k3, k4, kg, kd, kr⟩ := id hK
  intro k
  induction k with
  | zero =>
    intro n hn
    rw [Nat.add_zero] at hn
    subst hn
    have r0 := (hm' (lab K s n)).2.1
    simp (disch := first | omega | exact Nat.le_of_ble_eq_true rfl) only [e7_0, e7_1, e7_2, e7_3, e7_5, e7_8, e7_9, e7_12, e7_13, e7_14, e7_17, e7_20, e7_23, e7_24, e7_25, e7_26, e7_27, e7_30, e7_33, e7_34, e7_35, e7_38, e7_41, e7_42, e7_43, e7_46, e7_47, e7_48, e7_49, e7_52, e7_55, e7_56, e7_59, e7_60, e7_61, e7_62, e7_65, e7_68, e7_71, e7_74, e7_77, J_add, J_sub, J_mul, J_neg, J_lt, J_le, J_eq, gArr_J, gAst_J, gSiz_J, gFld_o, gUpd_o0, gUpd_o1, gUpd_o2, gUpd_o3, gUpd_o4, gUpd_o5, gUpd_o6, gUpd_o7, gUpd_o8, gUpd_o9, gUpd_o10, gUpd_o11, gUpd_o12, gUpd_o13, gUpd_o14, gUpd_o15, gUpd_o16, gUpd_o17, gUpd_o18, gIsO_o, Option.bind_some, List.getElem?_cons_zero, List.getElem?_cons_succ, List.length_cons, List.length_nil, List.set_cons_zero, List.set_cons_succ, gCat_nil, gCat_int, gCat_ref, if_pos, if_neg, Option.toList_some, Option.toList_none, List.cons_append, List.nil_append, B_nar, J1_nar, J0_nar, if_true, if_false, rd_wr_same, rd_wr_ne, true_and, and_true, B_0, B_1, not_true_eq_false, not_false_eq_true, rdH0 hh, r0]
  | succ k ih =>
    intro n hn
    have r0 := (hm' (lab K s n)).2.1
    have hl := lab_in K s n (fun g g1 g2 => by obtain ⟨q0, q1, q2, -⟩ := kg g g1 (by omega); omega)
    obtain ⟨q0, q1, q2, -⟩ := kg n (by omega) (by omega)
    have b1 := hl (K 1 (5 * (n : Int) + 1)) (by omega) (by omega)
    have b2 := hl (K 1 (5 * (n : Int) + 2)) (by omega) (by omega)
    have c1 := s18 (nat := nat) (d := d + 1) (w := putH w h (lab K s n)) (m := m) (K := K) (g := n) (i := 1) (hm' _) (by omega) (by omega)
    have c2 := s18 (nat := nat) (d := d + 1) (w := putH w h (lab K s n)) (m := m) (K := K) (g := n) (i := 2) (hm' _) (by omega) (by omega)
    have c3 := s114 (nat := nat) (d := d) (w := putH w h (lab K s n)) (s := s) (g := n) (by omega) (by omega)
    rw [Int.toNat_natCast] at c3
    have c4 := s117 (nat := nat) (d := d + 1) (w := putH w h (lab K s n)) (a := h + 1) (n := 8) (f := lab K s n) (i := K 1 (5 * (n : Int) + 1)) rdH1 h1 (by omega) (by omega)
    have c5 := s117 (nat := nat) (d := d + 1) (w := putH w h (lab K s n)) (a := h + 1) (n := 8) (f := lab K s n) (i := K 1 (5 * (n : Int) + 2)) rdH1 h1 (by omega) (by omega)
    have c6 := s8 (nat := nat) (d := d) (w := w) (f := lab K s n) hh b1 b2 hl
    have this := ih (n + 1) (by omega)
    rw [show ((n + 1 : Nat) : Int) = (n : Int) + 1 from rfl, lab] at this
    rw [e7_25]
    by_cases hb : s.testBit n = true
    · rw [B_pos hb] at c3
      rw [if_pos hb] at this
      simp (disch := first | omega | exact Nat.le_of_ble_eq_true rfl) only [e7_0, e7_1, e7_2, e7_3, e7_5, e7_8, e7_9, e7_12, e7_13, e7_14, e7_17, e7_20, e7_23, e7_24, e7_26, e7_27, e7_30, e7_33, e7_34, e7_35, e7_38, e7_41, e7_42, e7_43, e7_46, e7_47, e7_48, e7_49, e7_52, e7_55, e7_56, e7_59, e7_60, e7_61, e7_62, e7_65, e7_68, e7_71, e7_74, e7_77, J_add, J_sub, J_mul, J_neg, J_lt, J_le, J_eq, gArr_J, gAst_J, gSiz_J, gFld_o, gUpd_o0, gUpd_o1, gUpd_o2, gUpd_o3, gUpd_o4, gUpd_o5, gUpd_o6, gUpd_o7, gUpd_o8, gUpd_o9, gUpd_o10, gUpd_o11, gUpd_o12, gUpd_o13, gUpd_o14, gUpd_o15, gUpd_o16, gUpd_o17, gUpd_o18, gIsO_o, Option.bind_some, List.getElem?_cons_zero, List.getElem?_cons_succ, List.length_cons, List.length_nil, List.set_cons_zero, List.set_cons_succ, gCat_nil, gCat_int, gCat_ref, if_pos, if_neg, Option.toList_some, Option.toList_none, List.cons_append, List.nil_append, B_nar, J1_nar, J0_nar, if_true, if_false, rd_wr_same, rd_wr_ne, true_and, and_true, B_0, B_1, not_true_eq_false, not_false_eq_true, rdH0 hh, r0, c1, c2, c3, c4, c5, c6, this]
    · rw [B_neg hb] at c3
      rw [if_neg hb] at this
      simp (disch := first | omega | exact Nat.le_of_ble_eq_true rfl) only [e7_0, e7_1, e7_2, e7_3, e7_5, e7_8, e7_9, e7_12, e7_13, e7_14, e7_17, e7_20, e7_23, e7_24, e7_26, e7_27, e7_30, e7_33, e7_34, e7_35, e7_38, e7_41, e7_42, e7_43, e7_46, e7_47, e7_48, e7_49, e7_52, e7_55, e7_56, e7_59, e7_60, e7_61, e7_62, e7_65, e7_68, e7_71, e7_74, e7_77, J_add, J_sub, J_mul, J_neg, J_lt, J_le, J_eq, gArr_J, gAst_J, gSiz_J, gFld_o, gUpd_o0, gUpd_o1, gUpd_o2, gUpd_o3, gUpd_o4, gUpd_o5, gUpd_o6, gUpd_o7, gUpd_o8, gUpd_o9, gUpd_o10, gUpd_o11, gUpd_o12, gUpd_o13, gUpd_o14, gUpd_o15, gUpd_o16, gUpd_o17, gUpd_o18, gIsO_o, Option.bind_some, List.getElem?_cons_zero, List.getElem?_cons_succ, List.length_cons, List.length_nil, List.set_cons_zero, List.set_cons_succ, gCat_nil, gCat_int, gCat_ref, if_pos, if_neg, Option.toList_some, Option.toList_none, List.cons_append, List.nil_append, B_nar, J1_nar, J0_nar, if_true, if_false, rd_wr_same, rd_wr_ne, true_and, and_true, B_0, B_1, not_true_eq_false, not_false_eq_true, rdH0 hh, r0, c3, this]

theorem s7 {nat : gNat} {d : Nat} {w : gWd} {h m : Nat} {K : Lay} {f : Int → Int} (hm : isMe w m K) (hK : vK K) (hd : m + 3 < h ∨ h + 1 < m) (hh : isHp w h) {s : Nat} (hs : s < 256) (hf : ∀ x, 8 ≤ x → f x = 0) : gC nat (d + 3) 7 [.ref h, .ref m, .int (J s)] (putH w h f) = some (none, putH w h (lab K s (K 0 1).toNat)) := by
  rw [en7]
  have h1 := hh.1
  have c1 : ∀ (f : Int → Int) (i v : Int), (0 ≤ i ∧ i < 8) → gC nat (d + 2) 118 [.ref (h + 1), .int (J i), .int (J v)] (putH w h f) = some (none, putH w h (fset f i v)) := fun f i v q => by rw [s118 rdH1 h1 (by omega) (by omega), wH]
  simp (disch := first | omega | exact Nat.le_of_ble_eq_true rfl) only [e7_0, e7_1, e7_2, e7_3, e7_5, e7_8, e7_9, e7_12, e7_13, e7_14, e7_17, e7_20, e7_23, e7_24, e7_26, e7_27, e7_30, e7_33, e7_34, e7_35, e7_38, e7_41, e7_42, e7_43, e7_46, e7_47, e7_48, e7_49, e7_52, e7_55, e7_56, e7_59, e7_60, e7_61, e7_62, e7_65, e7_68, e7_71, e7_74, e7_77, J_add, J_sub, J_mul, J_neg, J_lt, J_le, J_eq, gArr_J, gAst_J, gSiz_J, gFld_o, gUpd_o0, gUpd_o1, gUpd_o2, gUpd_o3, gUpd_o4, gUpd_o5, gUpd_o6, gUpd_o7, gUpd_o8, gUpd_o9, gUpd_o10, gUpd_o11, gUpd_o12, gUpd_o13, gUpd_o14, gUpd_o15, gUpd_o16, gUpd_o17, gUpd_o18, gIsO_o, Option.bind_some, List.getElem?_cons_zero, List.getElem?_cons_succ, List.length_cons, List.length_nil, List.set_cons_zero, List.set_cons_succ, gCat_nil, gCat_int, gCat_ref, if_pos, if_neg, Option.toList_some, Option.toList_none, List.cons_append, List.nil_append, B_nar, J1_nar, J0_nar, if_true, if_false, rd_wr_same, rd_wr_ne, true_and, and_true, B_0, B_1, not_true_eq_false, not_false_eq_true, rdH0 hh, c1]
  have e : ∀ x, 0 ≤ x → fset (fset (fset (fset (fset (fset (fset (fset f 0 0) (0 + 1) (0 + 1)) (0 + 1 + 1) (0 + 1 + 1)) (0 + 1 + 1 + 1) (0 + 1 + 1 + 1)) (0 + 1 + 1 + 1 + 1) (0 + 1 + 1 + 1 + 1)) (0 + 1 + 1 + 1 + 1 + 1) (0 + 1 + 1 + 1 + 1 + 1)) (0 + 1 + 1 + 1 + 1 + 1 + 1) (0 + 1 + 1 + 1 + 1 + 1 + 1)) (0 + 1 + 1 + 1 + 1 + 1 + 1 + 1) (0 + 1 + 1 + 1 + 1 + 1 + 1 + 1) x = lab K s 0 x := by
    intro x hx
    unfold lab
    by_cases h8 : 8 ≤ x
    · rw [if_neg (by omega)]
      simp (disch := omega) only [fset_ne, hf x h8]
    · rw [if_pos (by omega)]
      have h8 : x = 0 ∨ x = 1 ∨ x = 2 ∨ x = 3 ∨ x = 4 ∨ x = 5 ∨ x = 6 ∨ x = 7 := by omega
      rcases h8 with rfl | rfl | rfl | rfl | rfl | rfl | rfl | rfl
      all_goals first | rfl | (simp (disch := omega) only [fset_ne, fset_at]; done)
  rw [putH_congr e]
  exact l7 hm hK hd hh hs (N := (K 0 1).toNat) (by have := hK.2.1; omega) (K 0 1).toNat 0 (by omega)

/-- how many of the first n hang with c -/
def szw (f : Int → Int) (c : Int) : Nat → Int
  | 0 => 0
  | n + 1 => if f n = f c then szw f c n + 1 else szw f c n
theorem szw_in (f : Int → Int) (c : Int) : ∀ n : Nat, 0 ≤ szw f c n ∧ szw f c n ≤ n := by
  intro n
  induction n with
  | zero => exact ⟨Int.le_refl 0, Int.le_refl 0⟩
  | succ n ih =>
    unfold szw
    split <;> omega
theorem l11 {nat : gNat} {d : Nat} {w : gWd} {h : Nat} {f : Int → Int} (hh : isHp w h) {c : Int} (hc : 0 ≤ c ∧ c < 8) (hf : ∀ x, 0 ≤ x → x < 8 → 0 ≤ f x ∧ f x < 8) : ∀ (k n : Nat), n + k = 8 → gX (gC nat (d + 2)) nat 11 4 [some (.ref h), some (.int (J c)), some (.int (J (szw f c n))), some (.int (J n))] [] [] (putH w h f) = some (some (.int (J (szw f c 8))), putH w h f) := by
  intro k
  induction k with
  | zero =>
    intro n hn
    rw [Nat.add_zero] at hn
    subst hn
    simp (disch := first | omega | exact Nat.le_of_ble_eq_true rfl) only [e11_0, e11_1, e11_2, e11_3, e11_4, e11_5, e11_7, e11_10, e11_11, e11_12, e11_13, e11_14, e11_17, e11_20, e11_21, e11_22, e11_25, e11_28, e11_29, J_add, J_sub, J_mul, J_neg, J_lt, J_le, J_eq, gArr_J, gAst_J, gSiz_J, gFld_o, gUpd_o0, gUpd_o1, gUpd_o2, gUpd_o3, gUpd_o4, gUpd_o5, gUpd_o6, gUpd_o7, gUpd_o8, gUpd_o9, gUpd_o10, gUpd_o11, gUpd_o12, gUpd_o13, gUpd_o14, gUpd_o15, gUpd_o16, gUpd_o17, gUpd_o18, gIsO_o, Option.bind_some, List.getElem?_cons_zero, List.getElem?_cons_succ, List.length_cons, List.length_nil, List.set_cons_zero, List.set_cons_succ, gCat_nil, gCat_int, gCat_ref, if_pos, if_neg, Option.toList_some, Option.toList_none, List.cons_append, List.nil_append, B_nar, J1_nar, J0_nar, if_true, if_false, rd_wr_same, rd_wr_ne, true_and, and_true, B_0, B_1, not_true_eq_false, not_false_eq_true, rdH0 hh]
  | succ k ih =>
    intro n hn
    have c1 := s9 (nat := nat) (d := d) (w := w) (f := f) hh (x := n) (y := c) (by omega) hc hf
    have c2 := s116 (nat := nat) (d := d + 1) (w := putH w h f) (p := f n = f c)
    have this := ih (n + 1) (by omega)
    rw [show ((n + 1 : Nat) : Int) = (n : Int) + 1 from rfl, szw] at this
    rw [e11_4]
    by_cases q : f n = f c
    · rw [B_pos q] at c1 c2
      rw [if_pos q] at this
      simp (disch := first | omega | exact Nat.le_of_ble_eq_true rfl) only [e11_0, e11_1, e11_2, e11_3, e11_5, e11_7, e11_10, e11_11, e11_12, e11_13, e11_14, e11_17, e11_20, e11_21, e11_22, e11_25, e11_28, e11_29, J_add, J_sub, J_mul, J_neg, J_lt, J_le, J_eq, gArr_J, gAst_J, gSiz_J, gFld_o, gUpd_o0, gUpd_o1, gUpd_o2, gUpd_o3, gUpd_o4, gUpd_o5, gUpd_o6, gUpd_o7, gUpd_o8, gUpd_o9, gUpd_o10, gUpd_o11, gUpd_o12, gUpd_o13, gUpd_o14, gUpd_o15, gUpd_o16, gUpd_o17, gUpd_o18, gIsO_o, Option.bind_some, List.getElem?_cons_zero, List.getElem?_cons_succ, List.length_cons, List.length_nil, List.set_cons_zero, List.set_cons_succ, gCat_nil, gCat_int, gCat_ref, if_pos, if_neg, Option.toList_some, Option.toList_none, List.cons_append, List.nil_append, B_nar, J1_nar, J0_nar, if_true, if_false, rd_wr_same, rd_wr_ne, true_and, and_true, B_0, B_1, not_true_eq_false, not_false_eq_true, rdH0 hh, c1, c2, this]
    · rw [B_neg q] at c1 c2
      rw [if_neg q] at this
      simp (disch := first | omega | exact Nat.le_of_ble_eq_true rfl) only [e11_0, e11_1, e11_2, e11_3, e11_5, e11_7, e11_10, e11_11, e11_12, e11_13, e11_14, e11_17, e11_20, e11_21, e11_22, e11_25, e11_28, e11_29, J_add, J_sub, J_mul, J_neg, J_lt, J_le, J_eq, gArr_J, gAst_J, gSiz_J, gFld_o, gUpd_o0, gUpd_o1, gUpd_o2, gUpd_o3, gUpd_o4, gUpd_o5, gUpd_o6, gUpd_o7, gUpd_o8, gUpd_o9, gUpd_o10, gUpd_o11, gUpd_o12, gUpd_o13, gUpd_o14, gUpd_o15, gUpd_o16, gUpd_o17, gUpd_o18, gIsO_o, Option.bind_some, List.getElem?_cons_zero, List.getElem?_cons_succ, List.length_cons, List.length_nil, List.set_cons_zero, List.set_cons_succ, gCat_nil, gCat_int, gCat_ref, if_pos, if_neg, Option.toList_some, Option.toList_none, List.cons_append, List.nil_append, B_nar, J1_nar, J0_nar, if_true, if_false, rd_wr_same, rd_wr_ne, true_and, and_true, B_0, B_1, not_true_eq_false, not_false_eq_true, rdH0 hh, c1, c2, Int.add_zero, this]

theorem s11 {nat : gNat} {d : Nat} {w : gWd} {h : Nat} {f : Int → Int} (hh : isHp w h) {c : Int} (hc : 0 ≤ c ∧ c < 8) (hf : ∀ x, 0 ≤ x → x < 8 → 0 ≤ f x ∧ f x < 8) : gC nat (d + 3) 11 [.ref h, .int (J c)] (putH w h f) = some (some (.int (J (szw f c 8))), putH w h f) := by
  rw [en11]
  have := l11 (nat := nat) (d := d) (w := w) hh hc hf 8 0 (by omega)
  rw [szw] at this
  simp (disch := first | omega | exact Nat.le_of_ble_eq_true rfl) only [e11_0, e11_1, e11_2, e11_3, e11_5, e11_7, e11_10, e11_11, e11_12, e11_13, e11_14, e11_17, e11_20, e11_21, e11_22, e11_25, e11_28, e11_29, J_add, J_sub, J_mul, J_neg, J_lt, J_le, J_eq, gArr_J, gAst_J, gSiz_J, gFld_o, gUpd_o0, gUpd_o1, gUpd_o2, gUpd_o3, gUpd_o4, gUpd_o5, gUpd_o6, gUpd_o7, gUpd_o8, gUpd_o9, gUpd_o10, gUpd_o11, gUpd_o12, gUpd_o13, gUpd_o14, gUpd_o15, gUpd_o16, gUpd_o17, gUpd_o18, gIsO_o, Option.bind_some, List.getElem?_cons_zero, List.getElem?_cons_succ, List.length_cons, List.length_nil, List.set_cons_zero, List.set_cons_succ, gCat_nil, gCat_int, gCat_ref, if_pos, if_neg, Option.toList_some, Option.toList_none, List.cons_append, List.nil_append, B_nar, J1_nar, J0_nar, if_true, if_false, rd_wr_same, rd_wr_ne, true_and, and_true, B_0, B_1, not_true_eq_false, not_false_eq_true]
  exact this

theorem s10 {nat : gNat} {d : Nat} {w : gWd} {h : Nat} {f : Int → Int} (hh : isHp w h) {x y : Int} (hx : 0 ≤ x ∧ x < 8) (hy : 0 ≤ y ∧ y < 8) (hf : ∀ x, 0 ≤ x → x < 8 → 0 ≤ f x ∧ f x < 8) : gC nat (d + 4) 10 [.ref h, .int (J x), .int (J y)] (putH w h f) = some (some (.int (J (if f x = f y then 0 else szw f x 8 * szw f y 8))), putH w h f) := by
  rw [en10]
  have c1 := s9 (nat := nat) (d := d + 1) (w := w) (f := f) hh hx hy hf
  have c2 := s11 (nat := nat) (d := d) (w := w) (f := f) hh hx hf
  have c3 := s11 (nat := nat) (d := d) (w := w) (f := f) hh hy hf
  by_cases q : f x = f y
  · rw [B_pos q] at c1
    rw [if_pos q]
    simp (disch := first | omega | exact Nat.le_of_ble_eq_true rfl) only [e10_0, e10_1, e10_2, e10_3, e10_6, e10_9, e10_10, e10_13, e10_14, e10_15, e10_18, e10_19, e10_20, e10_23, e10_24, J_add, J_sub, J_mul, J_neg, J_lt, J_le, J_eq, gArr_J, gAst_J, gSiz_J, gFld_o, gUpd_o0, gUpd_o1, gUpd_o2, gUpd_o3, gUpd_o4, gUpd_o5, gUpd_o6, gUpd_o7, gUpd_o8, gUpd_o9, gUpd_o10, gUpd_o11, gUpd_o12, gUpd_o13, gUpd_o14, gUpd_o15, gUpd_o16, gUpd_o17, gUpd_o18, gIsO_o, Option.bind_some, List.getElem?_cons_zero, List.getElem?_cons_succ, List.length_cons, List.length_nil, List.set_cons_zero, List.set_cons_succ, gCat_nil, gCat_int, gCat_ref, if_pos, if_neg, Option.toList_some, Option.toList_none, List.cons_append, List.nil_append, B_nar, J1_nar, J0_nar, if_true, if_false, rd_wr_same, rd_wr_ne, true_and, and_true, B_0, B_1, not_true_eq_false, not_false_eq_true, rdH0 hh, c1, c2, c3]
  · rw [B_neg q] at c1
    rw [if_neg q]
    simp (disch := first | omega | exact Nat.le_of_ble_eq_true rfl) only [e10_0, e10_1, e10_2, e10_3, e10_6, e10_9, e10_10, e10_13, e10_14, e10_15, e10_18, e10_19, e10_20, e10_23, e10_24, J_add, J_sub, J_mul, J_neg, J_lt, J_le, J_eq, gArr_J, gAst_J, gSiz_J, gFld_o, gUpd_o0, gUpd_o1, gUpd_o2, gUpd_o3, gUpd_o4, gUpd_o5, gUpd_o6, gUpd_o7, gUpd_o8, gUpd_o9, gUpd_o10, gUpd_o11, gUpd_o12, gUpd_o13, gUpd_o14, gUpd_o15, gUpd_o16, gUpd_o17, gUpd_o18, gIsO_o, Option.bind_some, List.getElem?_cons_zero, List.getElem?_cons_succ, List.length_cons, List.length_nil, List.set_cons_zero, List.set_cons_succ, gCat_nil, gCat_int, gCat_ref, if_pos, if_neg, Option.toList_some, Option.toList_none, List.cons_append, List.nil_append, B_nar, J1_nar, J0_nar, if_true, if_false, rd_wr_same, rd_wr_ne, true_and, and_true, B_0, B_1, not_true_eq_false, not_false_eq_true, rdH0 hh, c1, c2, c3]

/-- how many of the first n hang with none ahead of them -/
def hps (f : Int → Int) : Nat → Int
  | 0 => 0
  | n + 1 => if ∃ j : Nat, j < n ∧ f j = f n then hps f n else hps f n + 1
theorem hps_in (f : Int → Int) : ∀ n : Nat, 0 ≤ hps f n ∧ hps f n ≤ n := by
  intro n
  induction n with
  | zero => exact ⟨Int.le_refl 0, Int.le_refl 0⟩
  | succ n ih =>
    unfold hps
    split <;> omega
theorem l12i {nat : gNat} {d : Nat} {w : gWd} {h : Nat} {f : Int → Int} (hh : isHp w h) {p : Nat} (hp : p < 8) (hf : ∀ x, 0 ≤ x → x < 8 → 0 ≤ f x ∧ f x < 8) {z1 z2 : Option Value} : ∀ (k j : Nat), j + k = p → (∀ i : Nat, i < j → ¬ f i = f p) → ∃ q : Nat, gX (gC nat (d + 2)) nat 12 15 [some (.ref h), z1, z2, some (.int (J p)), some (.int (J j))] [] [] (putH w h f) = gX (gC nat (d + 2)) nat 12 37 [some (.ref h), z1, z2, some (.int (J p)), some (.int (J q))] [] [] (putH w h f) ∧ q ≤ p ∧ ((q = p ∧ ¬ ∃ i : Nat, i < p ∧ f i = f p) ∨ (q < p ∧ ∃ i : Nat, i < p ∧ f i = f p)) := by
  intro k
  induction k with
  | zero =>
    intro j hj hn
    rw [Nat.add_zero] at hj
    subst hj
    refine ⟨j, ?_, Nat.le_refl _, Or.inl ⟨rfl, fun ⟨i, h1, h2⟩ => hn i h1 h2⟩⟩
    rw [e12_15]
    simp (disch := first | omega | exact Nat.le_of_ble_eq_true rfl) only [e12_0, e12_1, e12_2, e12_3, e12_4, e12_5, e12_6, e12_9, e12_12, e12_13, e12_17, e12_18, e12_21, e12_22, e12_24, e12_25, e12_28, e12_31, e12_34, e12_38, e12_40, e12_41, e12_44, e12_45, e12_48, e12_49, e12_52, e12_53, e12_54, e12_57, e12_60, e12_61, J_add, J_sub, J_mul, J_neg, J_lt, J_le, J_eq, gArr_J, gAst_J, gSiz_J, gFld_o, gUpd_o0, gUpd_o1, gUpd_o2, gUpd_o3, gUpd_o4, gUpd_o5, gUpd_o6, gUpd_o7, gUpd_o8, gUpd_o9, gUpd_o10, gUpd_o11, gUpd_o12, gUpd_o13, gUpd_o14, gUpd_o15, gUpd_o16, gUpd_o17, gUpd_o18, gIsO_o, Option.bind_some, List.getElem?_cons_zero, List.getElem?_cons_succ, List.length_cons, List.length_nil, List.set_cons_zero, List.set_cons_succ, gCat_nil, gCat_int, gCat_ref, if_pos, if_neg, Option.toList_some, Option.toList_none, List.cons_append, List.nil_append, B_nar, J1_nar, J0_nar, if_true, if_false, rd_wr_same, rd_wr_ne, true_and, and_true, B_0, B_1, not_true_eq_false, not_false_eq_true, rdH0 hh]
  | succ k ih =>
    intro j hj hn
    have c1 := s9 (nat := nat) (d := d) (w := w) (f := f) hh (x := j) (y := p) (by omega) (by omega) hf
    by_cases q : f j = f p
    · rw [B_pos q] at c1
      refine ⟨j, ?_, by omega, Or.inr ⟨by omega, j, by omega, q⟩⟩
      rw [e12_15]
      simp (disch := first | omega | exact Nat.le_of_ble_eq_true rfl) only [e12_0, e12_1, e12_2, e12_3, e12_4, e12_5, e12_6, e12_9, e12_12, e12_13, e12_17, e12_18, e12_21, e12_22, e12_24, e12_25, e12_28, e12_31, e12_34, e12_38, e12_40, e12_41, e12_44, e12_45, e12_48, e12_49, e12_52, e12_53, e12_54, e12_57, e12_60, e12_61, J_add, J_sub, J_mul, J_neg, J_lt, J_le, J_eq, gArr_J, gAst_J, gSiz_J, gFld_o, gUpd_o0, gUpd_o1, gUpd_o2, gUpd_o3, gUpd_o4, gUpd_o5, gUpd_o6, gUpd_o7, gUpd_o8, gUpd_o9, gUpd_o10, gUpd_o11, gUpd_o12, gUpd_o13, gUpd_o14, gUpd_o15, gUpd_o16, gUpd_o17, gUpd_o18, gIsO_o, Option.bind_some, List.getElem?_cons_zero, List.getElem?_cons_succ, List.length_cons, List.length_nil, List.set_cons_zero, List.set_cons_succ, gCat_nil, gCat_int, gCat_ref, if_pos, if_neg, Option.toList_some, Option.toList_none, List.cons_append, List.nil_append, B_nar, J1_nar, J0_nar, if_true, if_false, rd_wr_same, rd_wr_ne, true_and, and_true, B_0, B_1, not_true_eq_false, not_false_eq_true, rdH0 hh, c1]
    · rw [B_neg q] at c1
      obtain ⟨r, h1, h2⟩ := ih (j + 1) (by omega) (fun i hi => by
        by_cases e : i = j
        · subst e; exact q
        · exact hn i (by omega))
      refine ⟨r, ?_, h2⟩
      rw [show ((j + 1 : Nat) : Int) = (j : Int) + 1 from rfl] at h1
      rw [← h1, e12_15]
      simp (disch := first | omega | exact Nat.le_of_ble_eq_true rfl) only [e12_0, e12_1, e12_2, e12_3, e12_4, e12_5, e12_6, e12_9, e12_12, e12_13, e12_17, e12_18, e12_21, e12_22, e12_24, e12_25, e12_28, e12_31, e12_34, e12_38, e12_40, e12_41, e12_44, e12_45, e12_48, e12_49, e12_52, e12_53, e12_54, e12_57, e12_60, e12_61, J_add, J_sub, J_mul, J_neg, J_lt, J_le, J_eq, gArr_J, gAst_J, gSiz_J, gFld_o, gUpd_o0, gUpd_o1, gUpd_o2, gUpd_o3, gUpd_o4, gUpd_o5, gUpd_o6, gUpd_o7, gUpd_o8, gUpd_o9, gUpd_o10, gUpd_o11, gUpd_o12, gUpd_o13, gUpd_o14, gUpd_o15, gUpd_o16, gUpd_o17, gUpd_o18, gIsO_o, Option.bind_some, List.getElem?_cons_zero, List.getElem?_cons_succ, List.length_cons, List.length_nil, List.set_cons_zero, List.set_cons_succ, gCat_nil, gCat_int, gCat_ref, if_pos, if_neg, Option.toList_some, Option.toList_none, List.cons_append, List.nil_append, B_nar, J1_nar, J0_nar, if_true, if_false, rd_wr_same, rd_wr_ne, true_and, and_true, B_0, B_1, not_true_eq_false, not_false_eq_true, rdH0 hh, c1]
theorem l12 {nat : gNat} {d : Nat} {w : gWd} {h m : Nat} {K : Lay} {f : Int → Int} (hm : isMe w m K) (hK : vK K) (hd : m + 3 < h ∨ h + 1 < m) (hh : isHp w h) (hf : ∀ x, 0 ≤ x → x < 8 → 0 ≤ f x ∧ f x < 8) {N : Nat} (hN : (N : Int) = K 0 0) : ∀ (k n : Nat) (z : Option Value), n + k = N → gX (gC nat (d + 2)) nat 12 4 [some (.ref h), some (.ref m), some (.int (J (hps f n))), some (.int (J n)), z] [] [] (putH w h f) = some (some (.int (J (hps f N))), putH w h f) := by
  have hm' : ∀ f, isMe (putH w h f) m K := fun f => isMe_putH (by omega) hm
  have r0 := (hm' f).2.1
  have k0 := hK.1
  intro k
  induction k with
  | zero =>
    intro n z hn
    rw [Nat.add_zero] at hn
    subst hn
    simp (disch := first | omega | exact Nat.le_of_ble_eq_true rfl) only [e12_0, e12_1, e12_2, e12_3, e12_4, e12_5, e12_6, e12_9, e12_12, e12_13, e12_17, e12_18, e12_21, e12_22, e12_24, e12_25, e12_28, e12_31, e12_34, e12_38, e12_40, e12_41, e12_44, e12_45, e12_48, e12_49, e12_52, e12_53, e12_54, e12_57, e12_60, e12_61, J_add, J_sub, J_mul, J_neg, J_lt, J_le, J_eq, gArr_J, gAst_J, gSiz_J, gFld_o, gUpd_o0, gUpd_o1, gUpd_o2, gUpd_o3, gUpd_o4, gUpd_o5, gUpd_o6, gUpd_o7, gUpd_o8, gUpd_o9, gUpd_o10, gUpd_o11, gUpd_o12, gUpd_o13, gUpd_o14, gUpd_o15, gUpd_o16, gUpd_o17, gUpd_o18, gIsO_o, Option.bind_some, List.getElem?_cons_zero, List.getElem?_cons_succ, List.length_cons, List.length_nil, List.set_cons_zero, List.set_cons_succ, gCat_nil, gCat_int, gCat_ref, if_pos, if_neg, Option.toList_some, Option.toList_none, List.cons_append, List.nil_append, B_nar, J1_nar, J0_nar, if_true, if_false, rd_wr_same, rd_wr_ne, true_and, and_true, B_0, B_1, not_true_eq_false, not_false_eq_true, rdH0 hh, r0]
  | succ k ih =>
    intro n z hn
    obtain ⟨q, hq, hle, hc⟩ := l12i (nat := nat) (d := d) (w := w) (f := f) hh (p := n) (by omega) hf (z1 := some (.ref m)) (z2 := some (.int (J (hps f n)))) n 0 (by omega) (fun i hi => absurd hi (Nat.not_lt_zero i))
    rw [show ((0 : Nat) : Int) = 0 from rfl] at hq
    have c1 := s116 (nat := nat) (d := d + 1) (w := putH w h f) (p := True)
    have c2 := s116 (nat := nat) (d := d + 1) (w := putH w h f) (p := False)
    rw [B_pos trivial] at c1
    rw [B_neg (fun q => q)] at c2
    have this := fun z => ih (n + 1) z (by omega)
    rw [show ((n + 1 : Nat) : Int) = (n : Int) + 1 from rfl, hps] at this
    rw [e12_4]
    simp (disch := first | omega | exact Nat.le_of_ble_eq_true rfl) only [e12_0, e12_1, e12_2, e12_3, e12_5, e12_6, e12_9, e12_12, e12_13, e12_17, e12_18, e12_21, e12_22, e12_24, e12_25, e12_28, e12_31, e12_34, e12_38, e12_40, e12_41, e12_44, e12_45, e12_48, e12_49, e12_52, e12_53, e12_54, e12_57, e12_60, e12_61, J_add, J_sub, J_mul, J_neg, J_lt, J_le, J_eq, gArr_J, gAst_J, gSiz_J, gFld_o, gUpd_o0, gUpd_o1, gUpd_o2, gUpd_o3, gUpd_o4, gUpd_o5, gUpd_o6, gUpd_o7, gUpd_o8, gUpd_o9, gUpd_o10, gUpd_o11, gUpd_o12, gUpd_o13, gUpd_o14, gUpd_o15, gUpd_o16, gUpd_o17, gUpd_o18, gIsO_o, Option.bind_some, List.getElem?_cons_zero, List.getElem?_cons_succ, List.length_cons, List.length_nil, List.set_cons_zero, List.set_cons_succ, gCat_nil, gCat_int, gCat_ref, if_pos, if_neg, Option.toList_some, Option.toList_none, List.cons_append, List.nil_append, B_nar, J1_nar, J0_nar, if_true, if_false, rd_wr_same, rd_wr_ne, true_and, and_true, B_0, B_1, not_true_eq_false, not_false_eq_true, rdH0 hh, r0]
    rw [hq, e12_37]
    rcases hc with ⟨e, hno⟩ | ⟨e, hyes⟩
    · subst e
      rw [if_neg hno] at this
      simp (disch := first | omega | exact Nat.le_of_ble_eq_true rfl) only [e12_0, e12_1, e12_2, e12_3, e12_5, e12_6, e12_9, e12_12, e12_13, e12_17, e12_18, e12_21, e12_22, e12_24, e12_25, e12_28, e12_31, e12_34, e12_38, e12_40, e12_41, e12_44, e12_45, e12_48, e12_49, e12_52, e12_53, e12_54, e12_57, e12_60, e12_61, J_add, J_sub, J_mul, J_neg, J_lt, J_le, J_eq, gArr_J, gAst_J, gSiz_J, gFld_o, gUpd_o0, gUpd_o1, gUpd_o2, gUpd_o3, gUpd_o4, gUpd_o5, gUpd_o6, gUpd_o7, gUpd_o8, gUpd_o9, gUpd_o10, gUpd_o11, gUpd_o12, gUpd_o13, gUpd_o14, gUpd_o15, gUpd_o16, gUpd_o17, gUpd_o18, gIsO_o, Option.bind_some, List.getElem?_cons_zero, List.getElem?_cons_succ, List.length_cons, List.length_nil, List.set_cons_zero, List.set_cons_succ, gCat_nil, gCat_int, gCat_ref, if_pos, if_neg, Option.toList_some, Option.toList_none, List.cons_append, List.nil_append, B_nar, J1_nar, J0_nar, if_true, if_false, rd_wr_same, rd_wr_ne, true_and, and_true, B_0, B_1, not_true_eq_false, not_false_eq_true, rdH0 hh, r0, c1, c2, this]
    · rw [if_pos hyes] at this
      have hne : ¬ (J (q : Int) = J (n : Int)) := by rw [J_eq (by omega) (by omega)]; omega
      simp (disch := first | omega | exact Nat.le_of_ble_eq_true rfl) only [e12_0, e12_1, e12_2, e12_3, e12_5, e12_6, e12_9, e12_12, e12_13, e12_17, e12_18, e12_21, e12_22, e12_24, e12_25, e12_28, e12_31, e12_34, e12_38, e12_40, e12_41, e12_44, e12_45, e12_48, e12_49, e12_52, e12_53, e12_54, e12_57, e12_60, e12_61, J_add, J_sub, J_mul, J_neg, J_lt, J_le, J_eq, gArr_J, gAst_J, gSiz_J, gFld_o, gUpd_o0, gUpd_o1, gUpd_o2, gUpd_o3, gUpd_o4, gUpd_o5, gUpd_o6, gUpd_o7, gUpd_o8, gUpd_o9, gUpd_o10, gUpd_o11, gUpd_o12, gUpd_o13, gUpd_o14, gUpd_o15, gUpd_o16, gUpd_o17, gUpd_o18, gIsO_o, Option.bind_some, List.getElem?_cons_zero, List.getElem?_cons_succ, List.length_cons, List.length_nil, List.set_cons_zero, List.set_cons_succ, gCat_nil, gCat_int, gCat_ref, if_pos, if_neg, Option.toList_some, Option.toList_none, List.cons_append, List.nil_append, B_nar, J1_nar, J0_nar, if_true, if_false, rd_wr_same, rd_wr_ne, true_and, and_true, B_0, B_1, not_true_eq_false, not_false_eq_true, rdH0 hh, r0, c1, c2, hne, Int.add_zero, this]

theorem s12 {nat : gNat} {d : Nat} {w : gWd} {h m : Nat} {K : Lay} {f : Int → Int} (hm : isMe w m K) (hK : vK K) (hd : m + 3 < h ∨ h + 1 < m) (hh : isHp w h) (hf : ∀ x, 0 ≤ x → x < 8 → 0 ≤ f x ∧ f x < 8) : gC nat (d + 3) 12 [.ref h, .ref m] (putH w h f) = some (some (.int (J (hps f (K 0 0).toNat))), putH w h f) := by
  rw [en12]
  have := l12 (nat := nat) (d := d) (w := w) hm hK hd hh hf (N := (K 0 0).toNat) (by have := hK.1; omega) (K 0 0).toNat 0 none (by omega)
  rw [hps] at this
  simp (disch := first | omega | exact Nat.le_of_ble_eq_true rfl) only [e12_0, e12_1, e12_2, e12_3, e12_5, e12_6, e12_9, e12_12, e12_13, e12_17, e12_18, e12_21, e12_22, e12_24, e12_25, e12_28, e12_31, e12_34, e12_38, e12_40, e12_41, e12_44, e12_45, e12_48, e12_49, e12_52, e12_53, e12_54, e12_57, e12_60, e12_61, J_add, J_sub, J_mul, J_neg, J_lt, J_le, J_eq, gArr_J, gAst_J, gSiz_J, gFld_o, gUpd_o0, gUpd_o1, gUpd_o2, gUpd_o3, gUpd_o4, gUpd_o5, gUpd_o6, gUpd_o7, gUpd_o8, gUpd_o9, gUpd_o10, gUpd_o11, gUpd_o12, gUpd_o13, gUpd_o14, gUpd_o15, gUpd_o16, gUpd_o17, gUpd_o18, gIsO_o, Option.bind_some, List.getElem?_cons_zero, List.getElem?_cons_succ, List.length_cons, List.length_nil, List.set_cons_zero, List.set_cons_succ, gCat_nil, gCat_int, gCat_ref, if_pos, if_neg, Option.toList_some, Option.toList_none, List.cons_append, List.nil_append, B_nar, J1_nar, J0_nar, if_true, if_false, rd_wr_same, rd_wr_ne, true_and, and_true, B_0, B_1, not_true_eq_false, not_false_eq_true]
  exact this
