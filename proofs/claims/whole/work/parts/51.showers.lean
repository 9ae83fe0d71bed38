/-- ways that rain as the bits say -/
def wt (s x : Nat) : Nat → Nat
  | 0 => 1
  | h + 1 => wt s x h * (if s.testBit h = true then x else 10 - x)
theorem wt_le (s : Nat) {x : Nat} (hx : x ≤ 10) : ∀ h, wt s x h ≤ 10 ^ h := by
  intro h
  induction h with
  | zero => exact Nat.le_refl 1
  | succ h ih =>
    rw [wt, Nat.pow_succ]
    refine Nat.mul_le_mul ih ?_
    split
    · exact hx
    · omega
def sumN (f : Nat → Nat) : Nat → Nat
  | 0 => 0
  | r + 1 => sumN f r + f r
theorem sumN_congr {f g : Nat → Nat} : ∀ n, (∀ r, r < n → f r = g r) → sumN f n = sumN g n := by
  intro n
  induction n with
  | zero => intro _; rfl
  | succ n ih =>
    intro h
    rw [sumN, sumN, ih (fun r hr => h r (by omega)), h n (by omega)]
theorem sumN_add (f : Nat → Nat) (a : Nat) : ∀ b, sumN f (a + b) = sumN f a + sumN (fun r => f (a + r)) b := by
  intro b
  induction b with
  | zero => rfl
  | succ b ih =>
    rw [← Nat.add_assoc, sumN, sumN, ih]
    omega
theorem sumN_mul (f : Nat → Nat) (c : Nat) : ∀ n, sumN (fun r => f r * c) n = sumN f n * c := by
  intro n
  induction n with
  | zero => simp [sumN]
  | succ n ih => rw [sumN, sumN, ih, Nat.add_mul]
theorem sumN_le {f g : Nat → Nat} (h : ∀ r, f r ≤ g r) : ∀ n, sumN f n ≤ sumN g n := by
  intro n
  induction n with
  | zero => exact Nat.le_refl 0
  | succ n ih =>
    rw [sumN, sumN]
    exact Nat.add_le_add ih (h n)
theorem sumN_mono (f : Nat → Nat) : ∀ k n, sumN f n ≤ sumN f (n + k) := by
  intro k
  induction k with
  | zero => intro n; exact Nat.le_refl _
  | succ k ih =>
    intro n
    have := ih n
    rw [← Nat.add_assoc, sumN]
    omega
theorem wt_pow (x n r : Nat) (hr : r < 2 ^ n) : ∀ h, h ≤ n → wt (2 ^ n + r) x h = wt r x h := by
  intro h
  induction h with
  | zero => intro _; rfl
  | succ h ih =>
    intro hh
    rw [wt, wt, ih (by omega), Nat.testBit_two_pow_add_gt (by omega)]
theorem wt_all {x : Nat} (hx : x ≤ 10) : ∀ n, sumN (fun r => wt r x n) (2 ^ n) = 10 ^ n := by
  intro n
  induction n with
  | zero => rfl
  | succ n ih =>
    rw [Nat.pow_succ 2 n, Nat.mul_two, sumN_add]
    rw [sumN_congr (f := fun r => wt r x (n + 1)) (g := fun r => wt r x n * (10 - x)) (2 ^ n) (fun r hr => by
      show wt r x n * _ = _
      rw [Nat.testBit_lt_two_pow hr]
      rfl)]
    rw [sumN_congr (f := fun r => wt (2 ^ n + r) x (n + 1)) (g := fun r => wt r x n * x) (2 ^ n) (fun r hr => by
      show wt (2 ^ n + r) x n * _ = _
      rw [Nat.testBit_two_pow_add_eq, Nat.testBit_lt_two_pow hr, wt_pow x n r hr n (Nat.le_refl n)]
      rfl)]
    rw [sumN_mul, sumN_mul, ih, ← Nat.mul_add, Nat.sub_add_cancel hx, Nat.pow_succ]
theorem l108 {nat : gNat} {d : Nat} {w : gWd} {s x n : Nat} (hs : s < 256) (hx : x ≤ 10) (hn : n ≤ 8) : ∀ (k h : Nat), h + k = n → gX (gC nat (d + 2)) nat 108 5 [some (.int (J s)), some (.int (J n)), some (.int (J x)), some (.int (J (wt s x h))), some (.int (J h))] [] [] w = some (some (.int (J (wt s x n))), w) := by
  intro k
  induction k with
  | zero =>
    intro h hh
    rw [Nat.add_zero] at hh
    subst hh
    rw [e108_5]
    simp (disch := first | omega | exact Nat.le_of_ble_eq_true rfl) only [e108_0, e108_1, e108_2, e108_3, e108_7, e108_8, e108_11, e108_12, e108_13, e108_15, e108_18, e108_21, e108_22, e108_25, e108_27, e108_28, e108_29, e108_30, e108_31, e108_34, e108_37, e108_38, J_add, J_sub, J_mul, J_neg, J_lt, J_le, J_eq, gArr_J, gAst_J, gSiz_J, gFld_o, gUpd_o0, gUpd_o1, gUpd_o2, gUpd_o3, gUpd_o4, gUpd_o5, gUpd_o6, gUpd_o7, gUpd_o8, gUpd_o9, gUpd_o10, gUpd_o11, gUpd_o12, gUpd_o13, gUpd_o14, gUpd_o15, gUpd_o16, gUpd_o17, gUpd_o18, gIsO_o, Option.bind_some, List.getElem?_cons_zero, List.getElem?_cons_succ, List.length_cons, List.length_nil, List.set_cons_zero, List.set_cons_succ, gCat_nil, gCat_int, gCat_ref, if_pos, if_neg, Option.toList_some, Option.toList_none, List.cons_append, List.nil_append, B_nar, J1_nar, J0_nar, if_true, if_false, rd_wr_same, rd_wr_ne, true_and, and_true, B_0, B_1, not_true_eq_false, not_false_eq_true]
  | succ k ih =>
    intro h hh
    have c1 := s114 (nat := nat) (d := d) (w := w) (s := s) (g := (h : Int)) (by omega) (by omega)
    rw [Int.toNat_natCast] at c1
    have := ih (h + 1) (by omega)
    rw [show ((h + 1 : Nat) : Int) = (h : Int) + 1 from rfl, wt] at this
    rw [e108_5]
    by_cases hb : s.testBit h = true
    · rw [B_pos hb] at c1
      rw [if_pos hb, show ((wt s x h * x : Nat) : Int) = (wt s x h : Int) * (x : Int) from rfl] at this
      simp (disch := first | omega | exact Nat.le_of_ble_eq_true rfl) only [e108_0, e108_1, e108_2, e108_3, e108_7, e108_8, e108_11, e108_12, e108_13, e108_15, e108_18, e108_21, e108_22, e108_25, e108_27, e108_28, e108_29, e108_30, e108_31, e108_34, e108_37, e108_38, J_add, J_sub, J_mul, J_neg, J_lt, J_le, J_eq, gArr_J, gAst_J, gSiz_J, gFld_o, gUpd_o0, gUpd_o1, gUpd_o2, gUpd_o3, gUpd_o4, gUpd_o5, gUpd_o6, gUpd_o7, gUpd_o8, gUpd_o9, gUpd_o10, gUpd_o11, gUpd_o12, gUpd_o13, gUpd_o14, gUpd_o15, gUpd_o16, gUpd_o17, gUpd_o18, gIsO_o, Option.bind_some, List.getElem?_cons_zero, List.getElem?_cons_succ, List.length_cons, List.length_nil, List.set_cons_zero, List.set_cons_succ, gCat_nil, gCat_int, gCat_ref, if_pos, if_neg, Option.toList_some, Option.toList_none, List.cons_append, List.nil_append, B_nar, J1_nar, J0_nar, if_true, if_false, rd_wr_same, rd_wr_ne, true_and, and_true, B_0, B_1, not_true_eq_false, not_false_eq_true, c1, this]
    · rw [B_neg hb] at c1
      rw [if_neg hb, show ((wt s x h * (10 - x) : Nat) : Int) = (wt s x h : Int) * (10 - (x : Int)) by rw [Int.natCast_mul, Int.ofNat_sub hx]; rfl] at this
      simp (disch := first | omega | exact Nat.le_of_ble_eq_true rfl) only [e108_0, e108_1, e108_2, e108_3, e108_7, e108_8, e108_11, e108_12, e108_13, e108_15, e108_18, e108_21, e108_22, e108_25, e108_27, e108_28, e108_29, e108_30, e108_31, e108_34, e108_37, e108_38, J_add, J_sub, J_mul, J_neg, J_lt, J_le, J_eq, gArr_J, gAst_J, gSiz_J, gFld_o, gUpd_o0, gUpd_o1, gUpd_o2, gUpd_o3, gUpd_o4, gUpd_o5, gUpd_o6, gUpd_o7, gUpd_o8, gUpd_o9, gUpd_o10, gUpd_o11, gUpd_o12, gUpd_o13, gUpd_o14, gUpd_o15, gUpd_o16, gUpd_o17, gUpd_o18, gIsO_o, Option.bind_some, List.getElem?_cons_zero, List.getElem?_cons_succ, List.length_cons, List.length_nil, List.set_cons_zero, List.set_cons_succ, gCat_nil, gCat_int, gCat_ref, if_pos, if_neg, Option.toList_some, Option.toList_none, List.cons_append, List.nil_append, B_nar, J1_nar, J0_nar, if_true, if_false, rd_wr_same, rd_wr_ne, true_and, and_true, B_0, B_1, not_true_eq_false, not_false_eq_true, c1, this]


theorem s108 {nat : gNat} {d : Nat} {w : gWd} {s x n : Nat} (hs : s < 256) (hx : x ≤ 10) (hn : n ≤ 8) : gC nat (d + 3) 108 [.int (J s), .int (J n), .int (J x)] w = some (some (.int (J (wt s x n))), w) := by
  rw [en108]
  have := l108 (nat := nat) (d := d) (w := w) hs hx hn n 0 (by omega)
  rw [show ((0 : Nat) : Int) = 0 from rfl, show ((wt s x 0 : Nat) : Int) = 1 from rfl] at this
  simp (disch := first | omega | exact Nat.le_of_ble_eq_true rfl) only [e108_0, e108_1, e108_2, e108_3, e108_7, e108_8, e108_11, e108_12, e108_13, e108_15, e108_18, e108_21, e108_22, e108_25, e108_27, e108_28, e108_29, e108_30, e108_31, e108_34, e108_37, e108_38, J_add, J_sub, J_mul, J_neg, J_lt, J_le, J_eq, gArr_J, gAst_J, gSiz_J, gFld_o, gUpd_o0, gUpd_o1, gUpd_o2, gUpd_o3, gUpd_o4, gUpd_o5, gUpd_o6, gUpd_o7, gUpd_o8, gUpd_o9, gUpd_o10, gUpd_o11, gUpd_o12, gUpd_o13, gUpd_o14, gUpd_o15, gUpd_o16, gUpd_o17, gUpd_o18, gIsO_o, Option.bind_some, List.getElem?_cons_zero, List.getElem?_cons_succ, List.length_cons, List.length_nil, List.set_cons_zero, List.set_cons_succ, gCat_nil, gCat_int, gCat_ref, if_pos, if_neg, Option.toList_some, Option.toList_none, List.cons_append, List.nil_append, B_nar, J1_nar, J0_nar, if_true, if_false, rd_wr_same, rd_wr_ne, true_and, and_true, B_0, B_1, not_true_eq_false, not_false_eq_true, this]

def lvb (K S : Lay) (s : Nat) : Nat → Lay
  | 0 => S
  | h + 1 => live K (lvb K S s h) (s.testBit h = true)
theorem lvb_ok {K S : Lay} (hK : vK K) (hS : vS K S) (hn : nS S) (s : Nat) : ∀ h : Nat, vS K (lvb K S s h) ∧ nS (lvb K S s h) ∧ (lvb K S s h) 0 0 = S 0 0 + h := by
  intro h
  induction h with
  | zero => exact ⟨hS, hn, by simp [lvb]⟩
  | succ h ih =>
    obtain ⟨h1, h2, h3⟩ := ih
    refine ⟨vS_live hK h1 _, nS_live hK h1 h2 _, ?_⟩
    rw [lvb, live_h, h3]
    omega
theorem l109 {nat : gNat} {d : Nat} {w : gWd} {p q : Nat} {X K S : Lay} {PT KT : Nat → Lay} (hX : isX w p q X K S PT KT) (hK : vK K) (hS : vS K S) (hH : 0 ≤ S 0 0 ∧ S 0 0 < 1000000) {s n : Nat} (hs : s < 256) (hn : n ≤ 8) {g : Int} (hg : 0 ≤ g ∧ g < K 0 1) : ∀ (k h : Nat), h + k = n → gX (gC nat (d + 4)) nat 109 14 [some (.ref 0), some (.int (J s)), some (.int (J n)), some (.int (J g)), some (.int (J h))] [] [] (putS w 16 (lvb K S s h)) = some (some (.int (B (K 1 (5 * g + 4) ≤ (lvb K S s n) 1 g))), putS w 16 (lvb K S s n)) := by
  obtain ⟨i0, iT, iR, iK, iQ, iS, inS, iTr, iP, iKp, iE, iH, iW, iD, hpq⟩ := id hX
  have hb := gSTR_big
  have f0 : ∀ S, rd (putS w 16 S) 0 = _ := fun S => (rd_putS (by omega)).trans i0
  have f2 : ∀ S, rd (putS w 16 S) 16 = _ := fun S => rdP0
  intro k
  induction k with
  | zero =>
    intro h hh
    rw [Nat.add_zero] at hh
    subst hh
    obtain ⟨v1, v2, v3⟩ := lvb_ok hK hS inS s h
    have c1 := s62 (nat := nat) (d := d + 2) (w := w) (a := 16) (S := lvb K S s h) iK hK (by omega) (by omega) hg (cbs_in hK v1 _ hg.1 hg.2)
    rw [e109_14]
    have hq : ∀ (r : Prop) [Decidable r], (if narrow .boolean (.int (B r)) = .int (B r) then some (some (Value.int (B r)), putS w 16 (lvb K S s h)) else none) = some (some (.int (B r)), putS w 16 (lvb K S s h)) := fun r _ => if_pos (of_eq_true (B_nar r))
    simp (disch := first | omega | exact Nat.le_of_ble_eq_true rfl) only [e109_0, e109_1, e109_4, e109_5, e109_8, e109_11, e109_12, e109_16, e109_17, e109_20, e109_21, e109_24, e109_25, e109_28, e109_29, e109_31, e109_34, e109_37, e109_40, e109_43, e109_44, e109_47, e109_48, e109_51, e109_52, e109_55, J_add, J_sub, J_mul, J_neg, J_lt, J_le, J_eq, gArr_J, gAst_J, gSiz_J, gFld_o, gUpd_o0, gUpd_o1, gUpd_o2, gUpd_o3, gUpd_o4, gUpd_o5, gUpd_o6, gUpd_o7, gUpd_o8, gUpd_o9, gUpd_o10, gUpd_o11, gUpd_o12, gUpd_o13, gUpd_o14, gUpd_o15, gUpd_o16, gUpd_o17, gUpd_o18, gIsO_o, Option.bind_some, List.getElem?_cons_zero, List.getElem?_cons_succ, List.length_cons, List.length_nil, List.set_cons_zero, List.set_cons_succ, gCat_nil, gCat_int, gCat_ref, if_pos, if_neg, Option.toList_some, Option.toList_none, List.cons_append, List.nil_append, B_nar, J1_nar, J0_nar, if_true, if_false, rd_wr_same, rd_wr_ne, true_and, and_true, B_0, B_1, not_true_eq_false, not_false_eq_true, f0, f2, c1, hq]
  | succ k ih =>
    intro h hh
    obtain ⟨v1, v2, v3⟩ := lvb_ok hK hS inS s h
    have c1 := s114 (nat := nat) (d := d + 2) (w := putS w 16 (lvb K S s h)) (s := s) (g := (h : Int)) (by omega) (by omega)
    rw [Int.toNat_natCast] at c1
    have c2 := s71 (nat := nat) (d := d) (w := w) (a := 16) (S := lvb K S s h) iK hK (by omega) (by omega) v1 (by omega) (r := s.testBit h = true)
    have := ih (h + 1) (by omega)
    rw [show ((h + 1 : Nat) : Int) = (h : Int) + 1 from rfl, lvb] at this
    rw [e109_14]
    simp (disch := first | omega | exact Nat.le_of_ble_eq_true rfl) only [e109_0, e109_1, e109_4, e109_5, e109_8, e109_11, e109_12, e109_16, e109_17, e109_20, e109_21, e109_24, e109_25, e109_28, e109_29, e109_31, e109_34, e109_37, e109_40, e109_43, e109_44, e109_47, e109_48, e109_51, e109_52, e109_55, J_add, J_sub, J_mul, J_neg, J_lt, J_le, J_eq, gArr_J, gAst_J, gSiz_J, gFld_o, gUpd_o0, gUpd_o1, gUpd_o2, gUpd_o3, gUpd_o4, gUpd_o5, gUpd_o6, gUpd_o7, gUpd_o8, gUpd_o9, gUpd_o10, gUpd_o11, gUpd_o12, gUpd_o13, gUpd_o14, gUpd_o15, gUpd_o16, gUpd_o17, gUpd_o18, gIsO_o, Option.bind_some, List.getElem?_cons_zero, List.getElem?_cons_succ, List.length_cons, List.length_nil, List.set_cons_zero, List.set_cons_succ, gCat_nil, gCat_int, gCat_ref, if_pos, if_neg, Option.toList_some, Option.toList_none, List.cons_append, List.nil_append, B_nar, J1_nar, J0_nar, if_true, if_false, rd_wr_same, rd_wr_ne, true_and, and_true, B_0, B_1, not_true_eq_false, not_false_eq_true, f0, f2, c1, c2, this]


theorem s109 {nat : gNat} {d : Nat} {w : gWd} {p q : Nat} {X K S : Lay} {PT KT : Nat → Lay} (hX : isX w p q X K S PT KT) (hK : vK K) (hS : vS K S) (hH : 0 ≤ S 0 0 ∧ S 0 0 < 1000000) {s n : Nat} (hs : s < 256) (hn : n ≤ 8) {g : Int} (hg : 0 ≤ g ∧ g < K 0 1) : gC nat (d + 5) 109 [.ref 0, .int (J s), .int (J n), .int (J g)] w = some (some (.int (B (K 1 (5 * g + 4) ≤ (lvb K S s n) 1 g))), putS w 16 (lvb K S s n)) := by
  rw [en109]
  obtain ⟨i0, iT, iR, iK, iQ, iS, inS, iTr, iP, iKp, iE, iH, iW, iD, hpq⟩ := id hX
  obtain ⟨T, t1, t2⟩ := id iTr
  have c1 := s58x (nat := nat) (d := d + 2) hX
  have := l109 (nat := nat) (d := d) hX hK hS hH hs hn hg n 0 (by omega)
  rw [show ((0 : Nat) : Int) = 0 from rfl, lvb] at this
  simp (disch := first | omega | exact Nat.le_of_ble_eq_true rfl) only [e109_0, e109_1, e109_4, e109_5, e109_8, e109_11, e109_12, e109_16, e109_17, e109_20, e109_21, e109_24, e109_25, e109_28, e109_29, e109_31, e109_34, e109_37, e109_40, e109_43, e109_44, e109_47, e109_48, e109_51, e109_52, e109_55, J_add, J_sub, J_mul, J_neg, J_lt, J_le, J_eq, gArr_J, gAst_J, gSiz_J, gFld_o, gUpd_o0, gUpd_o1, gUpd_o2, gUpd_o3, gUpd_o4, gUpd_o5, gUpd_o6, gUpd_o7, gUpd_o8, gUpd_o9, gUpd_o10, gUpd_o11, gUpd_o12, gUpd_o13, gUpd_o14, gUpd_o15, gUpd_o16, gUpd_o17, gUpd_o18, gIsO_o, Option.bind_some, List.getElem?_cons_zero, List.getElem?_cons_succ, List.length_cons, List.length_nil, List.set_cons_zero, List.set_cons_succ, gCat_nil, gCat_int, gCat_ref, if_pos, if_neg, Option.toList_some, Option.toList_none, List.cons_append, List.nil_append, B_nar, J1_nar, J0_nar, if_true, if_false, rd_wr_same, rd_wr_ne, true_and, and_true, B_0, B_1, not_true_eq_false, not_false_eq_true, i0, t1.2.1, c1]
  exact this

theorem l112 {nat : gNat} {d : Nat} {w : gWd} {z0 z1 : Option Value} : ∀ (k a b i : Nat) (z5 : Option Value), a < 1000000000 → b < 1000000000 → b < 2 ^ k → i + 2 * k ≤ 1000 → gX (gC nat d) nat 112 7 [z0, z1, some (.int (J a)), some (.int (J b)), some (.int (J i)), z5] [] [] w = some (some (.int (J (Nat.gcd a b))), w) := by
  intro k
  induction k with
  | zero =>
    intro a b i z5 ha hb h2 hi
    have e : b = 0 := by omega
    subst e
    rw [Nat.gcd_zero_right, show ((0 : Nat) : Int) = 0 from rfl, e112_7]
    by_cases hq : 1000 ≤ i
    ·
      simp (disch := first | omega | exact Nat.le_of_ble_eq_true rfl) only [e112_0, e112_1, e112_2, e112_3, e112_4, e112_5, e112_9, e112_12, e112_15, e112_16, e112_19, e112_20, e112_21, e112_22, e112_24, e112_25, e112_26, e112_28, e112_29, e112_32, e112_35, e112_36, J_add, J_sub, J_mul, J_neg, J_lt, J_le, J_eq, gArr_J, gAst_J, gSiz_J, gFld_o, gUpd_o0, gUpd_o1, gUpd_o2, gUpd_o3, gUpd_o4, gUpd_o5, gUpd_o6, gUpd_o7, gUpd_o8, gUpd_o9, gUpd_o10, gUpd_o11, gUpd_o12, gUpd_o13, gUpd_o14, gUpd_o15, gUpd_o16, gUpd_o17, gUpd_o18, gIsO_o, Option.bind_some, List.getElem?_cons_zero, List.getElem?_cons_succ, List.length_cons, List.length_nil, List.set_cons_zero, List.set_cons_succ, gCat_nil, gCat_int, gCat_ref, if_pos, if_neg, Option.toList_some, Option.toList_none, List.cons_append, List.nil_append, B_nar, J1_nar, J0_nar, if_true, if_false, rd_wr_same, rd_wr_ne, true_and, and_true, B_0, B_1, not_true_eq_false, not_false_eq_true]
    ·
      simp (disch := first | omega | exact Nat.le_of_ble_eq_true rfl) only [e112_0, e112_1, e112_2, e112_3, e112_4, e112_5, e112_9, e112_12, e112_15, e112_16, e112_19, e112_20, e112_21, e112_22, e112_24, e112_25, e112_26, e112_28, e112_29, e112_32, e112_35, e112_36, J_add, J_sub, J_mul, J_neg, J_lt, J_le, J_eq, gArr_J, gAst_J, gSiz_J, gFld_o, gUpd_o0, gUpd_o1, gUpd_o2, gUpd_o3, gUpd_o4, gUpd_o5, gUpd_o6, gUpd_o7, gUpd_o8, gUpd_o9, gUpd_o10, gUpd_o11, gUpd_o12, gUpd_o13, gUpd_o14, gUpd_o15, gUpd_o16, gUpd_o17, gUpd_o18, gIsO_o, Option.bind_some, List.getElem?_cons_zero, List.getElem?_cons_succ, List.length_cons, List.length_nil, List.set_cons_zero, List.set_cons_succ, gCat_nil, gCat_int, gCat_ref, if_pos, if_neg, Option.toList_some, Option.toList_none, List.cons_append, List.nil_append, B_nar, J1_nar, J0_nar, if_true, if_false, rd_wr_same, rd_wr_ne, true_and, and_true, B_0, B_1, not_true_eq_false, not_false_eq_true]
  | succ k ih =>
    intro a b i z5 ha hb h2 hi
    by_cases h0 : b = 0
    · subst h0
      rw [Nat.gcd_zero_right, show ((0 : Nat) : Int) = 0 from rfl, e112_7]
      simp (disch := first | omega | exact Nat.le_of_ble_eq_true rfl) only [e112_0, e112_1, e112_2, e112_3, e112_4, e112_5, e112_9, e112_12, e112_15, e112_16, e112_19, e112_20, e112_21, e112_22, e112_24, e112_25, e112_26, e112_28, e112_29, e112_32, e112_35, e112_36, J_add, J_sub, J_mul, J_neg, J_lt, J_le, J_eq, gArr_J, gAst_J, gSiz_J, gFld_o, gUpd_o0, gUpd_o1, gUpd_o2, gUpd_o3, gUpd_o4, gUpd_o5, gUpd_o6, gUpd_o7, gUpd_o8, gUpd_o9, gUpd_o10, gUpd_o11, gUpd_o12, gUpd_o13, gUpd_o14, gUpd_o15, gUpd_o16, gUpd_o17, gUpd_o18, gIsO_o, Option.bind_some, List.getElem?_cons_zero, List.getElem?_cons_succ, List.length_cons, List.length_nil, List.set_cons_zero, List.set_cons_succ, gCat_nil, gCat_int, gCat_ref, if_pos, if_neg, Option.toList_some, Option.toList_none, List.cons_append, List.nil_append, B_nar, J1_nar, J0_nar, if_true, if_false, rd_wr_same, rd_wr_ne, true_and, and_true, B_0, B_1, not_true_eq_false, not_false_eq_true]
    · have hr := Nat.mod_lt a (show b > 0 by omega)
      have step : gX (gC nat d) nat 112 7 [z0, z1, some (.int (J a)), some (.int (J b)), some (.int (J i)), z5] [] [] w = gX (gC nat d) nat 112 7 [z0, z1, some (.int (J b)), some (.int (J (a % b : Nat))), some (.int (J (i + 1 : Nat))), some (.int (J (a % b : Nat)))] [] [] w := by
        rw [e112_7, show ((i + 1 : Nat) : Int) = (i : Int) + 1 from rfl, Int.natCast_emod]
        simp (disch := first | omega | exact Nat.le_of_ble_eq_true rfl) only [e112_0, e112_1, e112_2, e112_3, e112_4, e112_5, e112_9, e112_12, e112_15, e112_16, e112_19, e112_20, e112_21, e112_22, e112_24, e112_25, e112_26, e112_28, e112_29, e112_32, e112_35, e112_36, J_add, J_sub, J_mul, J_neg, J_lt, J_le, J_eq, gArr_J, gAst_J, gSiz_J, gFld_o, gUpd_o0, gUpd_o1, gUpd_o2, gUpd_o3, gUpd_o4, gUpd_o5, gUpd_o6, gUpd_o7, gUpd_o8, gUpd_o9, gUpd_o10, gUpd_o11, gUpd_o12, gUpd_o13, gUpd_o14, gUpd_o15, gUpd_o16, gUpd_o17, gUpd_o18, gIsO_o, Option.bind_some, List.getElem?_cons_zero, List.getElem?_cons_succ, List.length_cons, List.length_nil, List.set_cons_zero, List.set_cons_succ, gCat_nil, gCat_int, gCat_ref, if_pos, if_neg, Option.toList_some, Option.toList_none, List.cons_append, List.nil_append, B_nar, J1_nar, J0_nar, if_true, if_false, rd_wr_same, rd_wr_ne, true_and, and_true, B_0, B_1, not_true_eq_false, not_false_eq_true, J_div, I_mod, J_ne0]
      rw [step]
      have eg : Nat.gcd a b = Nat.gcd b (a % b) := by rw [Nat.gcd_comm a b, Nat.gcd_rec b a, Nat.gcd_comm]
      rw [eg]
      generalize a % b = r at *
      by_cases h1 : r = 0
      · subst h1
        rw [Nat.gcd_zero_right, show ((0 : Nat) : Int) = 0 from rfl, e112_7]
        simp (disch := first | omega | exact Nat.le_of_ble_eq_true rfl) only [e112_0, e112_1, e112_2, e112_3, e112_4, e112_5, e112_9, e112_12, e112_15, e112_16, e112_19, e112_20, e112_21, e112_22, e112_24, e112_25, e112_26, e112_28, e112_29, e112_32, e112_35, e112_36, J_add, J_sub, J_mul, J_neg, J_lt, J_le, J_eq, gArr_J, gAst_J, gSiz_J, gFld_o, gUpd_o0, gUpd_o1, gUpd_o2, gUpd_o3, gUpd_o4, gUpd_o5, gUpd_o6, gUpd_o7, gUpd_o8, gUpd_o9, gUpd_o10, gUpd_o11, gUpd_o12, gUpd_o13, gUpd_o14, gUpd_o15, gUpd_o16, gUpd_o17, gUpd_o18, gIsO_o, Option.bind_some, List.getElem?_cons_zero, List.getElem?_cons_succ, List.length_cons, List.length_nil, List.set_cons_zero, List.set_cons_succ, gCat_nil, gCat_int, gCat_ref, if_pos, if_neg, Option.toList_some, Option.toList_none, List.cons_append, List.nil_append, B_nar, J1_nar, J0_nar, if_true, if_false, rd_wr_same, rd_wr_ne, true_and, and_true, B_0, B_1, not_true_eq_false, not_false_eq_true]
      · have hr2 := Nat.mod_lt b (show r > 0 by omega)
        have hhalf : 2 * (b % r) < b + 1 := by
          have := Nat.div_add_mod b r
          have hd : 1 ≤ b / r := (Nat.one_le_div_iff (by omega)).mpr (by omega)
          have : r * 1 ≤ r * (b / r) := Nat.mul_le_mul_left r hd
          omega
        have step2 : gX (gC nat d) nat 112 7 [z0, z1, some (.int (J b)), some (.int (J r)), some (.int (J (i + 1 : Nat))), some (.int (J r))] [] [] w = gX (gC nat d) nat 112 7 [z0, z1, some (.int (J r)), some (.int (J (b % r : Nat))), some (.int (J (i + 2 : Nat))), some (.int (J (b % r : Nat)))] [] [] w := by
          rw [e112_7, show ((i + 2 : Nat) : Int) = ((i + 1 : Nat) : Int) + 1 from rfl, Int.natCast_emod]
          simp (disch := first | omega | exact Nat.le_of_ble_eq_true rfl) only [e112_0, e112_1, e112_2, e112_3, e112_4, e112_5, e112_9, e112_12, e112_15, e112_16, e112_19, e112_20, e112_21, e112_22, e112_24, e112_25, e112_26, e112_28, e112_29, e112_32, e112_35, e112_36, J_add, J_sub, J_mul, J_neg, J_lt, J_le, J_eq, gArr_J, gAst_J, gSiz_J, gFld_o, gUpd_o0, gUpd_o1, gUpd_o2, gUpd_o3, gUpd_o4, gUpd_o5, gUpd_o6, gUpd_o7, gUpd_o8, gUpd_o9, gUpd_o10, gUpd_o11, gUpd_o12, gUpd_o13, gUpd_o14, gUpd_o15, gUpd_o16, gUpd_o17, gUpd_o18, gIsO_o, Option.bind_some, List.getElem?_cons_zero, List.getElem?_cons_succ, List.length_cons, List.length_nil, List.set_cons_zero, List.set_cons_succ, gCat_nil, gCat_int, gCat_ref, if_pos, if_neg, Option.toList_some, Option.toList_none, List.cons_append, List.nil_append, B_nar, J1_nar, J0_nar, if_true, if_false, rd_wr_same, rd_wr_ne, true_and, and_true, B_0, B_1, not_true_eq_false, not_false_eq_true, J_div, I_mod, J_ne0]
        rw [step2]
        have eg2 : Nat.gcd b r = Nat.gcd r (b % r) := by rw [Nat.gcd_comm b r, Nat.gcd_rec r b, Nat.gcd_comm]
        rw [eg2]
        rw [Nat.pow_succ] at h2
        exact ih r (b % r) (i + 2) _ (by omega) (by omega) (by omega) (by omega)

theorem s112 {nat : gNat} {d : Nat} {w : gWd} {a b : Nat} (ha : a < 1000000000) (hb : b < 1000000000) : gC nat (d + 1) 112 [.int (J a), .int (J b)] w = some (some (.int (J (Nat.gcd a b))), w) := by
  rw [en112]
  have := l112 (nat := nat) (d := d) (w := w) (z0 := some (.int (J a))) (z1 := some (.int (J b))) 30 a b 0 none ha hb (Nat.lt_of_lt_of_le hb (by decide)) (by omega)
  rw [show ((0 : Nat) : Int) = 0 from rfl] at this
  simp (disch := first | omega | exact Nat.le_of_ble_eq_true rfl) only [e112_0, e112_1, e112_2, e112_3, e112_4, e112_5, e112_9, e112_12, e112_15, e112_16, e112_19, e112_20, e112_21, e112_22, e112_24, e112_25, e112_26, e112_28, e112_29, e112_32, e112_35, e112_36, J_add, J_sub, J_mul, J_neg, J_lt, J_le, J_eq, gArr_J, gAst_J, gSiz_J, gFld_o, gUpd_o0, gUpd_o1, gUpd_o2, gUpd_o3, gUpd_o4, gUpd_o5, gUpd_o6, gUpd_o7, gUpd_o8, gUpd_o9, gUpd_o10, gUpd_o11, gUpd_o12, gUpd_o13, gUpd_o14, gUpd_o15, gUpd_o16, gUpd_o17, gUpd_o18, gIsO_o, Option.bind_some, List.getElem?_cons_zero, List.getElem?_cons_succ, List.length_cons, List.length_nil, List.set_cons_zero, List.set_cons_succ, gCat_nil, gCat_int, gCat_ref, if_pos, if_neg, Option.toList_some, Option.toList_none, List.cons_append, List.nil_append, B_nar, J1_nar, J0_nar, if_true, if_false, rd_wr_same, rd_wr_ne, true_and, and_true, B_0, B_1, not_true_eq_false, not_false_eq_true, this]

def cls (K S : Lay) (g : Int) (n : Nat) (x : Nat) (r : Nat) : Nat := if K 1 (5 * g + 4) ≤ (lvb K S r n) 1 g then wt r x n else 0
abbrev abv (K S : Lay) (g : Int) (n x : Nat) : Nat := sumN (cls K S g n x) (2 ^ n)
abbrev shoI (K : Lay) (g n x u : Int) : Prop := okG K g ∧ (0 ≤ n ∧ n ≤ 8) ∧ (0 ≤ x ∧ x ≤ 10) ∧ (0 ≤ u ∧ u ≤ 1)
def aSho (K S : Lay) (g n x u : Int) : Int := if shoI K g n x u then (if u = 0 then ((abv K S g n.toNat x.toNat / Nat.gcd (abv K S g n.toNat x.toNat) (10 ^ n.toNat) : Nat) : Int) else ((10 ^ n.toNat / Nat.gcd (abv K S g n.toNat x.toNat) (10 ^ n.toNat) : Nat) : Int)) else -1
theorem p10 {n : Nat} (h : n ≤ 8) : 10 ^ n ≤ 100000000 := Nat.le_trans (Nat.pow_le_pow_right (by decide) h) (by decide)
theorem l99 {nat : gNat} {d : Nat} {p q : Nat} {X K S : Lay} {PT KT : Nat → Lay} (hK : vK K) (hS : vS K S) (hn : nS S) (hH : 0 ≤ S 0 0 ∧ S 0 0 < 1000000) {g : Int} (hg : 0 ≤ g ∧ g < K 0 1) {n x : Nat} (hn8 : n ≤ 8) (hx : x ≤ 10) {z5 : Option Value} : ∀ (k r : Nat) (w : gWd) (z8 : Option Value), r + k = 2 ^ n → isX w p q X K S PT KT → ∃ w' z8', isX w' p q X K S PT KT ∧ (∀ z, 96 ≤ z → rd w' z = rd w z) ∧ w'.2 = w.2 ∧ gX (gC nat (d + 5)) nat 99 49 [some (.ref 0), some (.int (J g)), some (.int (J n)), some (.int (J x)), z5, some (.int (J (sumN (cls K S g n x) r))), some (.int (J (sumN (fun r => wt r x n) r))), some (.int (J r)), z8] [] [] w = gX (gC nat (d + 5)) nat 99 102 [some (.ref 0), some (.int (J g)), some (.int (J n)), some (.int (J x)), z5, some (.int (J (abv K S g n x))), some (.int (J (10 ^ n : Nat))), some (.int (J (2 ^ n : Nat))), z8'] [] [] w' := by
  have hp : 2 ^ n ≤ 256 := pow256 hn8
  have hsh := J_shl (g := (n : Int)) (by omega)
  rw [Int.toNat_natCast] at hsh
  intro k
  induction k with
  | zero =>
    intro r w z8 hr hX
    rw [Nat.add_zero] at hr
    subst hr
    refine ⟨w, z8, hX, fun _ _ => rfl, rfl, ?_⟩
    rw [wt_all hx, e99_49]
    unfold abv
    generalize hP : 2 ^ n = P at *
    simp (disch := first | omega | exact Nat.le_of_ble_eq_true rfl) only [e99_0, e99_1, e99_2, e99_5, e99_8, e99_9, e99_10, e99_12, e99_15, e99_18, e99_19, e99_20, e99_22, e99_25, e99_28, e99_30, e99_31, e99_32, e99_35, e99_38, e99_39, e99_40, e99_41, e99_43, e99_44, e99_46, e99_47, e99_51, e99_52, e99_53, e99_54, e99_57, e99_59, e99_60, e99_61, e99_64, e99_66, e99_68, e99_70, e99_71, e99_73, e99_75, e99_78, e99_79, e99_81, e99_82, e99_83, e99_86, e99_89, e99_91, e99_93, e99_94, e99_96, e99_99, e99_104, e99_106, e99_109, e99_111, e99_113, e99_114, e99_117, e99_119, e99_120, e99_122, e99_125, e99_127, e99_130, e99_132, e99_134, e99_135, J_add, J_sub, J_mul, J_neg, J_lt, J_le, J_eq, gArr_J, gAst_J, gSiz_J, gFld_o, gUpd_o0, gUpd_o1, gUpd_o2, gUpd_o3, gUpd_o4, gUpd_o5, gUpd_o6, gUpd_o7, gUpd_o8, gUpd_o9, gUpd_o10, gUpd_o11, gUpd_o12, gUpd_o13, gUpd_o14, gUpd_o15, gUpd_o16, gUpd_o17, gUpd_o18, gIsO_o, Option.bind_some, List.getElem?_cons_zero, List.getElem?_cons_succ, List.length_cons, List.length_nil, List.set_cons_zero, List.set_cons_succ, gCat_nil, gCat_int, gCat_ref, if_pos, if_neg, Option.toList_some, Option.toList_none, List.cons_append, List.nil_append, B_nar, J1_nar, J0_nar, if_true, if_false, rd_wr_same, rd_wr_ne, true_and, and_true, B_0, B_1, not_true_eq_false, not_false_eq_true, hsh]
  | succ k ih =>
    intro r w z8 hr hX
    obtain ⟨i0, iT, iR, iK, iQ, iS, inS, iTr, iP, iKp, iE, iH, iW, iD, hpq⟩ := id hX
    have c1 := s108 (nat := nat) (d := d + 2) (w := w) (s := r) (x := x) (n := n) (by omega) hx hn8
    have c2 := s109 (nat := nat) (d := d) hX hK hS hH (s := r) (n := n) (by omega) hn8 hg
    have hw := wt_le r hx n
    have hw10 := p10 hn8
    have eb : ((sumN (fun r => wt r x n) (r + 1) : Nat) : Int) = (sumN (fun r => wt r x n) r : Nat) + (wt r x n : Nat) := rfl
    have ea : ((sumN (cls K S g n x) (r + 1) : Nat) : Int) = (sumN (cls K S g n x) r : Nat) + (cls K S g n x r : Nat) := rfl
    by_cases h0 : wt r x n = 0
    · obtain ⟨w', z8', g1, g2, g3, g4⟩ := ih (r + 1) w (some (.int (J (wt r x n)))) (by omega) hX
      refine ⟨w', z8', g1, g2, g3, ?_⟩
      have ec : cls K S g n x r = 0 := by
        unfold cls
        split
        · exact h0
        · rfl
      rw [eb, ea, ec, show ((0 : Nat) : Int) = 0 from rfl, Int.add_zero, show ((r + 1 : Nat) : Int) = (r : Int) + 1 from rfl] at g4
      rw [← g4, e99_49]
      generalize hP : 2 ^ n = P at *
      simp (disch := first | omega | exact Nat.le_of_ble_eq_true rfl) only [e99_0, e99_1, e99_2, e99_5, e99_8, e99_9, e99_10, e99_12, e99_15, e99_18, e99_19, e99_20, e99_22, e99_25, e99_28, e99_30, e99_31, e99_32, e99_35, e99_38, e99_39, e99_40, e99_41, e99_43, e99_44, e99_46, e99_47, e99_51, e99_52, e99_53, e99_54, e99_57, e99_59, e99_60, e99_61, e99_64, e99_66, e99_68, e99_70, e99_71, e99_73, e99_75, e99_78, e99_79, e99_81, e99_82, e99_83, e99_86, e99_89, e99_91, e99_93, e99_94, e99_96, e99_99, e99_104, e99_106, e99_109, e99_111, e99_113, e99_114, e99_117, e99_119, e99_120, e99_122, e99_125, e99_127, e99_130, e99_132, e99_134, e99_135, J_add, J_sub, J_mul, J_neg, J_lt, J_le, J_eq, gArr_J, gAst_J, gSiz_J, gFld_o, gUpd_o0, gUpd_o1, gUpd_o2, gUpd_o3, gUpd_o4, gUpd_o5, gUpd_o6, gUpd_o7, gUpd_o8, gUpd_o9, gUpd_o10, gUpd_o11, gUpd_o12, gUpd_o13, gUpd_o14, gUpd_o15, gUpd_o16, gUpd_o17, gUpd_o18, gIsO_o, Option.bind_some, List.getElem?_cons_zero, List.getElem?_cons_succ, List.length_cons, List.length_nil, List.set_cons_zero, List.set_cons_succ, gCat_nil, gCat_int, gCat_ref, if_pos, if_neg, Option.toList_some, Option.toList_none, List.cons_append, List.nil_append, B_nar, J1_nar, J0_nar, if_true, if_false, rd_wr_same, rd_wr_ne, true_and, and_true, B_0, B_1, not_true_eq_false, not_false_eq_true, hsh, c1]
    · have hX2 := isX_tr hX (lvb_ok hK hS inS r n).2.1
      obtain ⟨w', z8', g1, g2, g3, g4⟩ := ih (r + 1) _ (some (.int (J (wt r x n)))) (by omega) hX2
      refine ⟨w', z8', g1, fun z hz => (g2 z hz).trans (rd_putS (by omega)), g3, ?_⟩
      rw [eb, ea, show ((r + 1 : Nat) : Int) = (r : Int) + 1 from rfl] at g4
      rw [← g4, e99_49]
      generalize hP : 2 ^ n = P at *
      unfold cls
      by_cases hc : K 1 (5 * g + 4) ≤ (lvb K S r n) 1 g
      · rw [B_pos hc] at c2
        rw [if_pos hc]
        simp (disch := first | omega | exact Nat.le_of_ble_eq_true rfl) only [e99_0, e99_1, e99_2, e99_5, e99_8, e99_9, e99_10, e99_12, e99_15, e99_18, e99_19, e99_20, e99_22, e99_25, e99_28, e99_30, e99_31, e99_32, e99_35, e99_38, e99_39, e99_40, e99_41, e99_43, e99_44, e99_46, e99_47, e99_51, e99_52, e99_53, e99_54, e99_57, e99_59, e99_60, e99_61, e99_64, e99_66, e99_68, e99_70, e99_71, e99_73, e99_75, e99_78, e99_79, e99_81, e99_82, e99_83, e99_86, e99_89, e99_91, e99_93, e99_94, e99_96, e99_99, e99_104, e99_106, e99_109, e99_111, e99_113, e99_114, e99_117, e99_119, e99_120, e99_122, e99_125, e99_127, e99_130, e99_132, e99_134, e99_135, J_add, J_sub, J_mul, J_neg, J_lt, J_le, J_eq, gArr_J, gAst_J, gSiz_J, gFld_o, gUpd_o0, gUpd_o1, gUpd_o2, gUpd_o3, gUpd_o4, gUpd_o5, gUpd_o6, gUpd_o7, gUpd_o8, gUpd_o9, gUpd_o10, gUpd_o11, gUpd_o12, gUpd_o13, gUpd_o14, gUpd_o15, gUpd_o16, gUpd_o17, gUpd_o18, gIsO_o, Option.bind_some, List.getElem?_cons_zero, List.getElem?_cons_succ, List.length_cons, List.length_nil, List.set_cons_zero, List.set_cons_succ, gCat_nil, gCat_int, gCat_ref, if_pos, if_neg, Option.toList_some, Option.toList_none, List.cons_append, List.nil_append, B_nar, J1_nar, J0_nar, if_true, if_false, rd_wr_same, rd_wr_ne, true_and, and_true, B_0, B_1, not_true_eq_false, not_false_eq_true, hsh, c1, c2, i0]
      · rw [B_neg hc] at c2
        rw [if_neg hc, show ((0 : Nat) : Int) = 0 from rfl, Int.add_zero]
        simp (disch := first | omega | exact Nat.le_of_ble_eq_true rfl) only [e99_0, e99_1, e99_2, e99_5, e99_8, e99_9, e99_10, e99_12, e99_15, e99_18, e99_19, e99_20, e99_22, e99_25, e99_28, e99_30, e99_31, e99_32, e99_35, e99_38, e99_39, e99_40, e99_41, e99_43, e99_44, e99_46, e99_47, e99_51, e99_52, e99_53, e99_54, e99_57, e99_59, e99_60, e99_61, e99_64, e99_66, e99_68, e99_70, e99_71, e99_73, e99_75, e99_78, e99_79, e99_81, e99_82, e99_83, e99_86, e99_89, e99_91, e99_93, e99_94, e99_96, e99_99, e99_104, e99_106, e99_109, e99_111, e99_113, e99_114, e99_117, e99_119, e99_120, e99_122, e99_125, e99_127, e99_130, e99_132, e99_134, e99_135, J_add, J_sub, J_mul, J_neg, J_lt, J_le, J_eq, gArr_J, gAst_J, gSiz_J, gFld_o, gUpd_o0, gUpd_o1, gUpd_o2, gUpd_o3, gUpd_o4, gUpd_o5, gUpd_o6, gUpd_o7, gUpd_o8, gUpd_o9, gUpd_o10, gUpd_o11, gUpd_o12, gUpd_o13, gUpd_o14, gUpd_o15, gUpd_o16, gUpd_o17, gUpd_o18, gIsO_o, Option.bind_some, List.getElem?_cons_zero, List.getElem?_cons_succ, List.length_cons, List.length_nil, List.set_cons_zero, List.set_cons_succ, gCat_nil, gCat_int, gCat_ref, if_pos, if_neg, Option.toList_some, Option.toList_none, List.cons_append, List.nil_append, B_nar, J1_nar, J0_nar, if_true, if_false, rd_wr_same, rd_wr_ne, true_and, and_true, B_0, B_1, not_true_eq_false, not_false_eq_true, hsh, c1, c2, i0]


theorem x99 {nat : gNat} {d : Nat} {w : gWd} {p q : Nat} {X K S : Lay} {PT KT : Nat → Lay} (hX : isX w p q X K S PT KT) (hK : vK K) (hS : vS K S) (hH : 0 ≤ S 0 0 ∧ S 0 0 < 1000000) {g n x u : Int} (h_g : -2147483648 ≤ g ∧ g < 2147483648) (h_n : -2147483648 ≤ n ∧ n < 2147483648) (h_x : -2147483648 ≤ x ∧ x < 2147483648) (h_u : -2147483648 ≤ u ∧ u < 2147483648)  : ∃ w', gC nat (d + 25) 99 [.ref 0, .int (J g), .int (J n), .int (J x), .int (J u)] w = some (some (.int (J (aSho K S g n x u))), w') ∧ isX w' p q X K S PT KT ∧ (∀ z, 96 ≤ z → rd w' z = rd w z) ∧ w'.2 = w.2 := by
  rw [en99]
  obtain ⟨i0, iT, iR, iK, iQ, iS, inS, iTr, iP, iKp, iE, iH, iW, iD, hpq⟩ := id hX
  have c1 := s105 (nat := nat) (d := d + 22) (w := w) i0 iK hK (g := g) h_g
  have c2 := s113 (nat := nat) (d := d + 23) (w := w) (x := n) (l := 0) (h := 8) (by omega) (by omega) (by omega)
  have c3 := s113 (nat := nat) (d := d + 23) (w := w) (x := x) (l := 0) (h := 10) (by omega) (by omega) (by omega)
  have c4 := s113 (nat := nat) (d := d + 23) (w := w) (x := u) (l := 0) (h := 1) (by omega) (by omega) (by omega)
  have hb := gSTR_big
  unfold aSho
  by_cases h1 : okG K g
  rotate_left
  · rw [B_neg h1] at c1
    rw [if_neg (fun y => h1 y.1)]
    refine ⟨w, ?_, hX, fun _ _ => rfl, rfl⟩
    simp (disch := first | omega | exact Nat.le_of_ble_eq_true rfl) only [e99_0, e99_1, e99_2, e99_5, e99_8, e99_9, e99_10, e99_12, e99_15, e99_18, e99_19, e99_20, e99_22, e99_25, e99_28, e99_30, e99_31, e99_32, e99_35, e99_38, e99_39, e99_40, e99_41, e99_43, e99_44, e99_46, e99_47, e99_51, e99_52, e99_53, e99_54, e99_57, e99_59, e99_60, e99_61, e99_64, e99_66, e99_68, e99_70, e99_71, e99_73, e99_75, e99_78, e99_79, e99_81, e99_82, e99_83, e99_86, e99_89, e99_91, e99_93, e99_94, e99_96, e99_99, e99_104, e99_106, e99_109, e99_111, e99_113, e99_114, e99_117, e99_119, e99_120, e99_122, e99_125, e99_127, e99_130, e99_132, e99_134, e99_135, J_add, J_sub, J_mul, J_neg, J_lt, J_le, J_eq, gArr_J, gAst_J, gSiz_J, gFld_o, gUpd_o0, gUpd_o1, gUpd_o2, gUpd_o3, gUpd_o4, gUpd_o5, gUpd_o6, gUpd_o7, gUpd_o8, gUpd_o9, gUpd_o10, gUpd_o11, gUpd_o12, gUpd_o13, gUpd_o14, gUpd_o15, gUpd_o16, gUpd_o17, gUpd_o18, gIsO_o, Option.bind_some, List.getElem?_cons_zero, List.getElem?_cons_succ, List.length_cons, List.length_nil, List.set_cons_zero, List.set_cons_succ, gCat_nil, gCat_int, gCat_ref, if_pos, if_neg, Option.toList_some, Option.toList_none, List.cons_append, List.nil_append, B_nar, J1_nar, J0_nar, if_true, if_false, rd_wr_same, rd_wr_ne, true_and, and_true, B_0, B_1, not_true_eq_false, not_false_eq_true, i0, c1]
  rw [B_pos h1] at c1
  by_cases h2 : 0 ≤ n ∧ n ≤ 8
  rotate_left
  · rw [B_neg h2] at c2
    rw [if_neg (fun y => h2 y.2.1)]
    refine ⟨w, ?_, hX, fun _ _ => rfl, rfl⟩
    simp (disch := first | omega | exact Nat.le_of_ble_eq_true rfl) only [e99_0, e99_1, e99_2, e99_5, e99_8, e99_9, e99_10, e99_12, e99_15, e99_18, e99_19, e99_20, e99_22, e99_25, e99_28, e99_30, e99_31, e99_32, e99_35, e99_38, e99_39, e99_40, e99_41, e99_43, e99_44, e99_46, e99_47, e99_51, e99_52, e99_53, e99_54, e99_57, e99_59, e99_60, e99_61, e99_64, e99_66, e99_68, e99_70, e99_71, e99_73, e99_75, e99_78, e99_79, e99_81, e99_82, e99_83, e99_86, e99_89, e99_91, e99_93, e99_94, e99_96, e99_99, e99_104, e99_106, e99_109, e99_111, e99_113, e99_114, e99_117, e99_119, e99_120, e99_122, e99_125, e99_127, e99_130, e99_132, e99_134, e99_135, J_add, J_sub, J_mul, J_neg, J_lt, J_le, J_eq, gArr_J, gAst_J, gSiz_J, gFld_o, gUpd_o0, gUpd_o1, gUpd_o2, gUpd_o3, gUpd_o4, gUpd_o5, gUpd_o6, gUpd_o7, gUpd_o8, gUpd_o9, gUpd_o10, gUpd_o11, gUpd_o12, gUpd_o13, gUpd_o14, gUpd_o15, gUpd_o16, gUpd_o17, gUpd_o18, gIsO_o, Option.bind_some, List.getElem?_cons_zero, List.getElem?_cons_succ, List.length_cons, List.length_nil, List.set_cons_zero, List.set_cons_succ, gCat_nil, gCat_int, gCat_ref, if_pos, if_neg, Option.toList_some, Option.toList_none, List.cons_append, List.nil_append, B_nar, J1_nar, J0_nar, if_true, if_false, rd_wr_same, rd_wr_ne, true_and, and_true, B_0, B_1, not_true_eq_false, not_false_eq_true, i0, c1, c2]
  rw [B_pos h2] at c2
  by_cases h3 : 0 ≤ x ∧ x ≤ 10
  rotate_left
  · rw [B_neg h3] at c3
    rw [if_neg (fun y => h3 y.2.2.1)]
    refine ⟨w, ?_, hX, fun _ _ => rfl, rfl⟩
    simp (disch := first | omega | exact Nat.le_of_ble_eq_true rfl) only [e99_0, e99_1, e99_2, e99_5, e99_8, e99_9, e99_10, e99_12, e99_15, e99_18, e99_19, e99_20, e99_22, e99_25, e99_28, e99_30, e99_31, e99_32, e99_35, e99_38, e99_39, e99_40, e99_41, e99_43, e99_44, e99_46, e99_47, e99_51, e99_52, e99_53, e99_54, e99_57, e99_59, e99_60, e99_61, e99_64, e99_66, e99_68, e99_70, e99_71, e99_73, e99_75, e99_78, e99_79, e99_81, e99_82, e99_83, e99_86, e99_89, e99_91, e99_93, e99_94, e99_96, e99_99, e99_104, e99_106, e99_109, e99_111, e99_113, e99_114, e99_117, e99_119, e99_120, e99_122, e99_125, e99_127, e99_130, e99_132, e99_134, e99_135, J_add, J_sub, J_mul, J_neg, J_lt, J_le, J_eq, gArr_J, gAst_J, gSiz_J, gFld_o, gUpd_o0, gUpd_o1, gUpd_o2, gUpd_o3, gUpd_o4, gUpd_o5, gUpd_o6, gUpd_o7, gUpd_o8, gUpd_o9, gUpd_o10, gUpd_o11, gUpd_o12, gUpd_o13, gUpd_o14, gUpd_o15, gUpd_o16, gUpd_o17, gUpd_o18, gIsO_o, Option.bind_some, List.getElem?_cons_zero, List.getElem?_cons_succ, List.length_cons, List.length_nil, List.set_cons_zero, List.set_cons_succ, gCat_nil, gCat_int, gCat_ref, if_pos, if_neg, Option.toList_some, Option.toList_none, List.cons_append, List.nil_append, B_nar, J1_nar, J0_nar, if_true, if_false, rd_wr_same, rd_wr_ne, true_and, and_true, B_0, B_1, not_true_eq_false, not_false_eq_true, i0, c1, c2, c3]
  rw [B_pos h3] at c3
  by_cases h4 : 0 ≤ u ∧ u ≤ 1
  rotate_left
  · rw [B_neg h4] at c4
    rw [if_neg (fun y => h4 y.2.2.2)]
    refine ⟨w, ?_, hX, fun _ _ => rfl, rfl⟩
    simp (disch := first | omega | exact Nat.le_of_ble_eq_true rfl) only [e99_0, e99_1, e99_2, e99_5, e99_8, e99_9, e99_10, e99_12, e99_15, e99_18, e99_19, e99_20, e99_22, e99_25, e99_28, e99_30, e99_31, e99_32, e99_35, e99_38, e99_39, e99_40, e99_41, e99_43, e99_44, e99_46, e99_47, e99_51, e99_52, e99_53, e99_54, e99_57, e99_59, e99_60, e99_61, e99_64, e99_66, e99_68, e99_70, e99_71, e99_73, e99_75, e99_78, e99_79, e99_81, e99_82, e99_83, e99_86, e99_89, e99_91, e99_93, e99_94, e99_96, e99_99, e99_104, e99_106, e99_109, e99_111, e99_113, e99_114, e99_117, e99_119, e99_120, e99_122, e99_125, e99_127, e99_130, e99_132, e99_134, e99_135, J_add, J_sub, J_mul, J_neg, J_lt, J_le, J_eq, gArr_J, gAst_J, gSiz_J, gFld_o, gUpd_o0, gUpd_o1, gUpd_o2, gUpd_o3, gUpd_o4, gUpd_o5, gUpd_o6, gUpd_o7, gUpd_o8, gUpd_o9, gUpd_o10, gUpd_o11, gUpd_o12, gUpd_o13, gUpd_o14, gUpd_o15, gUpd_o16, gUpd_o17, gUpd_o18, gIsO_o, Option.bind_some, List.getElem?_cons_zero, List.getElem?_cons_succ, List.length_cons, List.length_nil, List.set_cons_zero, List.set_cons_succ, gCat_nil, gCat_int, gCat_ref, if_pos, if_neg, Option.toList_some, Option.toList_none, List.cons_append, List.nil_append, B_nar, J1_nar, J0_nar, if_true, if_false, rd_wr_same, rd_wr_ne, true_and, and_true, B_0, B_1, not_true_eq_false, not_false_eq_true, i0, c1, c2, c3, c4]
  rw [B_pos h4] at c4
  rw [if_pos ⟨h1, h2, h3, h4⟩]
  obtain ⟨w', z8', g1, g2, g3, g4⟩ := l99 (nat := nat) (d := d + 19) (p := p) (q := q) (X := X) (PT := PT) (KT := KT) hK hS inS hH (g := g) (by omega) (n := n.toNat) (x := x.toNat) (by omega) (by omega) (z5 := some (.int (J u))) (2 ^ n.toNat) 0 w none (by omega) hX
  rw [sumN, sumN, show ((0 : Nat) : Int) = 0 from rfl, show ((n.toNat : Nat) : Int) = n by omega, show ((x.toNat : Nat) : Int) = x by omega] at g4
  have hle : abv K S g n.toNat x.toNat ≤ 10 ^ n.toNat := by
    rw [← wt_all (x := x.toNat) (by omega) n.toNat]
    refine sumN_le (fun r => ?_) _
    unfold cls
    split
    · exact Nat.le_refl _
    · exact Nat.zero_le _
  have h10 := p10 (n := n.toNat) (by omega)
  have hpos : 0 < 10 ^ n.toNat := Nat.pow_pos (by decide)
  generalize abv K S g n.toNat x.toNat = A at *
  generalize 10 ^ n.toNat = D at *
  have c5 := s112 (nat := nat) (d := d + 23) (w := w') (a := A) (b := D) (by omega) (by omega)
  have hg1 := Nat.gcd_pos_of_pos_right A hpos
  have hg2 : Nat.gcd A D ≤ D := Nat.gcd_le_right A hpos
  generalize Nat.gcd A D = G at *
  refine ⟨w', ?_, g1, g2, g3⟩
  simp (disch := first | omega | exact Nat.le_of_ble_eq_true rfl) only [e99_0, e99_1, e99_2, e99_5, e99_8, e99_9, e99_10, e99_12, e99_15, e99_18, e99_19, e99_20, e99_22, e99_25, e99_28, e99_30, e99_31, e99_32, e99_35, e99_38, e99_39, e99_40, e99_41, e99_43, e99_44, e99_46, e99_47, e99_51, e99_52, e99_53, e99_54, e99_57, e99_59, e99_60, e99_61, e99_64, e99_66, e99_68, e99_70, e99_71, e99_73, e99_75, e99_78, e99_79, e99_81, e99_82, e99_83, e99_86, e99_89, e99_91, e99_93, e99_94, e99_96, e99_99, e99_104, e99_106, e99_109, e99_111, e99_113, e99_114, e99_117, e99_119, e99_120, e99_122, e99_125, e99_127, e99_130, e99_132, e99_134, e99_135, J_add, J_sub, J_mul, J_neg, J_lt, J_le, J_eq, gArr_J, gAst_J, gSiz_J, gFld_o, gUpd_o0, gUpd_o1, gUpd_o2, gUpd_o3, gUpd_o4, gUpd_o5, gUpd_o6, gUpd_o7, gUpd_o8, gUpd_o9, gUpd_o10, gUpd_o11, gUpd_o12, gUpd_o13, gUpd_o14, gUpd_o15, gUpd_o16, gUpd_o17, gUpd_o18, gIsO_o, Option.bind_some, List.getElem?_cons_zero, List.getElem?_cons_succ, List.length_cons, List.length_nil, List.set_cons_zero, List.set_cons_succ, gCat_nil, gCat_int, gCat_ref, if_pos, if_neg, Option.toList_some, Option.toList_none, List.cons_append, List.nil_append, B_nar, J1_nar, J0_nar, if_true, if_false, rd_wr_same, rd_wr_ne, true_and, and_true, B_0, B_1, not_true_eq_false, not_false_eq_true, i0, c1, c2, c3, c4]
  rw [g4, e99_102]
  by_cases h5 : u = 0
  · rw [if_pos h5, Int.natCast_ediv]
    simp (disch := first | omega | exact Nat.le_of_ble_eq_true rfl) only [e99_0, e99_1, e99_2, e99_5, e99_8, e99_9, e99_10, e99_12, e99_15, e99_18, e99_19, e99_20, e99_22, e99_25, e99_28, e99_30, e99_31, e99_32, e99_35, e99_38, e99_39, e99_40, e99_41, e99_43, e99_44, e99_46, e99_47, e99_51, e99_52, e99_53, e99_54, e99_57, e99_59, e99_60, e99_61, e99_64, e99_66, e99_68, e99_70, e99_71, e99_73, e99_75, e99_78, e99_79, e99_81, e99_82, e99_83, e99_86, e99_89, e99_91, e99_93, e99_94, e99_96, e99_99, e99_104, e99_106, e99_109, e99_111, e99_113, e99_114, e99_117, e99_119, e99_120, e99_122, e99_125, e99_127, e99_130, e99_132, e99_134, e99_135, J_add, J_sub, J_mul, J_neg, J_lt, J_le, J_eq, gArr_J, gAst_J, gSiz_J, gFld_o, gUpd_o0, gUpd_o1, gUpd_o2, gUpd_o3, gUpd_o4, gUpd_o5, gUpd_o6, gUpd_o7, gUpd_o8, gUpd_o9, gUpd_o10, gUpd_o11, gUpd_o12, gUpd_o13, gUpd_o14, gUpd_o15, gUpd_o16, gUpd_o17, gUpd_o18, gIsO_o, Option.bind_some, List.getElem?_cons_zero, List.getElem?_cons_succ, List.length_cons, List.length_nil, List.set_cons_zero, List.set_cons_succ, gCat_nil, gCat_int, gCat_ref, if_pos, if_neg, Option.toList_some, Option.toList_none, List.cons_append, List.nil_append, B_nar, J1_nar, J0_nar, if_true, if_false, rd_wr_same, rd_wr_ne, true_and, and_true, B_0, B_1, not_true_eq_false, not_false_eq_true, c5, J_div, J_ne0]
  · rw [if_neg h5, Int.natCast_ediv]
    simp (disch := first | omega | exact Nat.le_of_ble_eq_true rfl) only [e99_0, e99_1, e99_2, e99_5, e99_8, e99_9, e99_10, e99_12, e99_15, e99_18, e99_19, e99_20, e99_22, e99_25, e99_28, e99_30, e99_31, e99_32, e99_35, e99_38, e99_39, e99_40, e99_41, e99_43, e99_44, e99_46, e99_47, e99_51, e99_52, e99_53, e99_54, e99_57, e99_59, e99_60, e99_61, e99_64, e99_66, e99_68, e99_70, e99_71, e99_73, e99_75, e99_78, e99_79, e99_81, e99_82, e99_83, e99_86, e99_89, e99_91, e99_93, e99_94, e99_96, e99_99, e99_104, e99_106, e99_109, e99_111, e99_113, e99_114, e99_117, e99_119, e99_120, e99_122, e99_125, e99_127, e99_130, e99_132, e99_134, e99_135, J_add, J_sub, J_mul, J_neg, J_lt, J_le, J_eq, gArr_J, gAst_J, gSiz_J, gFld_o, gUpd_o0, gUpd_o1, gUpd_o2, gUpd_o3, gUpd_o4, gUpd_o5, gUpd_o6, gUpd_o7, gUpd_o8, gUpd_o9, gUpd_o10, gUpd_o11, gUpd_o12, gUpd_o13, gUpd_o14, gUpd_o15, gUpd_o16, gUpd_o17, gUpd_o18, gIsO_o, Option.bind_some, List.getElem?_cons_zero, List.getElem?_cons_succ, List.length_cons, List.length_nil, List.set_cons_zero, List.set_cons_succ, gCat_nil, gCat_int, gCat_ref, if_pos, if_neg, Option.toList_some, Option.toList_none, List.cons_append, List.nil_append, B_nar, J1_nar, J0_nar, if_true, if_false, rd_wr_same, rd_wr_ne, true_and, and_true, B_0, B_1, not_true_eq_false, not_false_eq_true, c5, J_div, J_ne0]
