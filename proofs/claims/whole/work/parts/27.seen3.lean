theorem putEH {w : gWd} {x h : Nat} {hd st lo bp bq : Int} {A1 A2 A3 A4 f : Int → Int} (hxh : h + 1 < x ∨ x + 4 < h) : putH (putE w x hd st lo bp bq A1 A2 A3 A4) h f = putE (putH w h f) x hd st lo bp bq A1 A2 A3 A4 := by
  refine putE_rd rfl ?_ ?_ ?_ ?_ ?_ (fun b hb => ?_)
  · rw [rdHn (by omega)]; exact rdE0
  · rw [rdHn (by omega)]; exact rdE1
  · rw [rdHn (by omega)]; exact rdE2
  · rw [rdHn (by omega)]; exact rdE3
  · rw [rdHn (by omega)]; exact rdE4
  · by_cases q : b = h + 1
    · subst q
      rw [rdH1, rdH1]
    · rw [rdHn q, rdHn q, rdEn hb]

theorem isMe_putE {w : gWd} {x m : Nat} {hd st lo bp bq : Int} {A1 A2 A3 A4 : Int → Int} {K : Lay} (hd' : m + 3 < x ∨ x + 4 < m) (hm : isMe w m K) : isMe (putE w x hd st lo bp bq A1 A2 A3 A4) m K := by
  obtain ⟨h0, h1, h2, h3, h4⟩ := hm
  exact ⟨h0, by rw [rdEn (by omega)]; exact h1, by rw [rdEn (by omega)]; exact h2, by rw [rdEn (by omega)]; exact h3, by rw [rdEn (by omega)]; exact h4⟩
theorem lab_far (K : Lay) (s : Nat) : ∀ (n : Nat) (x : Int), 8 ≤ x → lab K s n x = 0 := by
  intro n
  induction n with
  | zero =>
    intro x hx
    unfold lab
    rw [if_neg (by omega)]
  | succ n ih =>
    intro x hx
    unfold lab
    split
    · unfold mrg
      split
      · exact ih x hx
      · dsimp only
        rw [if_neg (by omega)]
        exact ih x hx
    · exact ih x hx
theorem lab_inK {K : Lay} (hK : vK K) (s : Nat) : ∀ x, 0 ≤ x → x < 8 → 0 ≤ lab K s (K 0 1).toNat x ∧ lab K s (K 0 1).toNat x < 8 := by
  obtain ⟨k0, k1, k2, k3, k4, kg, kd, kr⟩ := id hK
  exact lab_in K s _ (fun g g1 g2 => by
    obtain ⟨q0, q1, q2, -⟩ := kg g g1 (by omega)
    omega)
def cpO (f X : Int → Int) (P p : Int) : Int → Int := fun i => if p ≤ i / 8 ∧ i / 8 < i % 8 ∧ i % 8 < P ∧ f (i / 8) = f (i % 8) then X i + 1 else X i
theorem l47 {nat : gNat} {d : Nat} {w : gWd} {x h m : Nat} {K : Lay} {hd st lo bp bq : Int} {A1 A2 A3 : Int → Int} {f : Int → Int} (hx : x + 4 < gSTR) (hh : isHp w h) (hxh : h + 1 < x ∨ x + 4 < h) (hm : isMe w m K) (hK : vK K) (hmx : m + 3 < x ∨ x + 4 < m) (hmh : m + 3 < h ∨ h + 1 < m) (hf : ∀ x, 0 ≤ x → x < 8 → 0 ≤ f x ∧ f x < 8) : ∀ (k : Nat) (p : Int) (z1 z2 : Option Value) (A4 : Int → Int), p + k = K 0 0 → 0 ≤ p → gX (gC nat (d + 2)) nat 47 2 [some (.ref x), some (.ref m), some (.ref h), some (.int (J p)), z1, z2] [] [] (putH (putE w x hd st lo bp bq A1 A2 A3 A4) h f) = some (none, (putH (putE w x hd st lo bp bq A1 A2 A3 (cpO f A4 (K 0 0) p)) h f)) := by
  have hh1 := hh.1
  have k0 := hK.1
  have k1 := hK.2.1
  have r0 : ∀ (hd st lo bp bq : Int) (A1 A2 A3 A4 f : Int → Int), rd (putH (putE w x hd st lo bp bq A1 A2 A3 A4) h f) m = oC 2 [.int (J (K 0 0)), .int (J (K 0 1)), .int (J (K 0 2)), .int (J (K 0 3)), .int (J (K 0 4)), .ref (m + 1), .ref (m + 2), .ref (m + 3)] := fun hd st lo bp bq A1 A2 A3 A4 f => by rw [rdHn (by omega), rdEn (by omega)]; exact hm.2.1
  have hE : ∀ (hd st lo bp bq : Int) (A1 A2 A3 A4 : Int → Int), isHp (putE w x hd st lo bp bq A1 A2 A3 A4) h := fun hd st lo bp bq A1 A2 A3 A4 => isHp_putE hh hxh
  have hE2 := fun hd st lo bp bq A1 A2 A3 A4 => (hE hd st lo bp bq A1 A2 A3 A4).2
  have hM : ∀ (hd st lo bp bq : Int) (A1 A2 A3 A4 : Int → Int), isMe (putE w x hd st lo bp bq A1 A2 A3 A4) m K := fun hd st lo bp bq A1 A2 A3 A4 => isMe_putE hmx hm
  intro k
  induction k with
  | zero =>
    intro p z1 z2 A4 hp h0
    have e0 : p = K 0 0 := by omega
    subst e0
    have e : cpO f A4 (K 0 0) (K 0 0) = A4 := funext fun i => by
      unfold cpO
      rw [if_neg (by omega)]
    rw [e, e47_2]
    simp (disch := first | omega | exact Nat.le_of_ble_eq_true rfl) only [e47_0, e47_1, e47_3, e47_4, e47_7, e47_10, e47_11, e47_12, e47_13, e47_17, e47_18, e47_21, e47_24, e47_25, e47_26, e47_28, e47_31, e47_34, e47_35, e47_37, e47_38, e47_40, e47_41, e47_43, e47_44, e47_47, e47_49, e47_50, e47_53, e47_55, e47_58, e47_59, e47_60, e47_63, e47_66, e47_72, e47_75, J_add, J_sub, J_mul, J_neg, J_lt, J_le, J_eq, gArr_J, gAst_J, gSiz_J, gFld_o, gUpd_o0, gUpd_o1, gUpd_o2, gUpd_o3, gUpd_o4, gUpd_o5, gUpd_o6, gUpd_o7, gUpd_o8, gUpd_o9, gUpd_o10, gUpd_o11, gUpd_o12, gUpd_o13, gUpd_o14, gUpd_o15, gUpd_o16, gUpd_o17, gUpd_o18, gIsO_o, Option.bind_some, List.getElem?_cons_zero, List.getElem?_cons_succ, List.length_cons, List.length_nil, List.set_cons_zero, List.set_cons_succ, gCat_nil, gCat_int, gCat_ref, if_pos, if_neg, Option.toList_some, Option.toList_none, List.cons_append, List.nil_append, B_nar, J1_nar, J0_nar, if_true, if_false, rd_wr_same, rd_wr_ne, true_and, and_true, B_0, B_1, not_true_eq_false, not_false_eq_true, rdE0, rdE1, rdE2, rdE3, rdE4, wE0, wE1, wE2, wE3, wE4, rdHn, wHc, r0]
  | succ k ih =>
    intro p z1 z2 A4 hp h0
    obtain ⟨z', hz⟩ := l47i (nat := nat) (d := d) (w := w) (hd := hd) (st := st) (lo := lo) (bp := bp) (bq := bq) (A1 := A1) (A2 := A2) (A3 := A3) hx hh hxh hm hK hmx hmh hf (p := p) ⟨h0, by omega⟩ (K 0 0 - (p + 1)).toNat (p + 1) z2 A4 (by omega) (by omega)
    rw [e47_2]
    simp (disch := first | omega | exact Nat.le_of_ble_eq_true rfl) only [e47_0, e47_1, e47_3, e47_4, e47_7, e47_10, e47_11, e47_12, e47_13, e47_17, e47_18, e47_21, e47_24, e47_25, e47_26, e47_28, e47_31, e47_34, e47_35, e47_37, e47_38, e47_40, e47_41, e47_43, e47_44, e47_47, e47_49, e47_50, e47_53, e47_55, e47_58, e47_59, e47_60, e47_63, e47_66, e47_72, e47_75, J_add, J_sub, J_mul, J_neg, J_lt, J_le, J_eq, gArr_J, gAst_J, gSiz_J, gFld_o, gUpd_o0, gUpd_o1, gUpd_o2, gUpd_o3, gUpd_o4, gUpd_o5, gUpd_o6, gUpd_o7, gUpd_o8, gUpd_o9, gUpd_o10, gUpd_o11, gUpd_o12, gUpd_o13, gUpd_o14, gUpd_o15, gUpd_o16, gUpd_o17, gUpd_o18, gIsO_o, Option.bind_some, List.getElem?_cons_zero, List.getElem?_cons_succ, List.length_cons, List.length_nil, List.set_cons_zero, List.set_cons_succ, gCat_nil, gCat_int, gCat_ref, if_pos, if_neg, Option.toList_some, Option.toList_none, List.cons_append, List.nil_append, B_nar, J1_nar, J0_nar, if_true, if_false, rd_wr_same, rd_wr_ne, true_and, and_true, B_0, B_1, not_true_eq_false, not_false_eq_true, rdE0, rdE1, rdE2, rdE3, rdE4, wE0, wE1, wE2, wE3, wE4, rdHn, wHc, r0]
    rw [hz, e47_69]
    simp (disch := first | omega | exact Nat.le_of_ble_eq_true rfl) only [e47_0, e47_1, e47_3, e47_4, e47_7, e47_10, e47_11, e47_12, e47_13, e47_17, e47_18, e47_21, e47_24, e47_25, e47_26, e47_28, e47_31, e47_34, e47_35, e47_37, e47_38, e47_40, e47_41, e47_43, e47_44, e47_47, e47_49, e47_50, e47_53, e47_55, e47_58, e47_59, e47_60, e47_63, e47_66, e47_72, e47_75, J_add, J_sub, J_mul, J_neg, J_lt, J_le, J_eq, gArr_J, gAst_J, gSiz_J, gFld_o, gUpd_o0, gUpd_o1, gUpd_o2, gUpd_o3, gUpd_o4, gUpd_o5, gUpd_o6, gUpd_o7, gUpd_o8, gUpd_o9, gUpd_o10, gUpd_o11, gUpd_o12, gUpd_o13, gUpd_o14, gUpd_o15, gUpd_o16, gUpd_o17, gUpd_o18, gIsO_o, Option.bind_some, List.getElem?_cons_zero, List.getElem?_cons_succ, List.length_cons, List.length_nil, List.set_cons_zero, List.set_cons_succ, gCat_nil, gCat_int, gCat_ref, if_pos, if_neg, Option.toList_some, Option.toList_none, List.cons_append, List.nil_append, B_nar, J1_nar, J0_nar, if_true, if_false, rd_wr_same, rd_wr_ne, true_and, and_true, B_0, B_1, not_true_eq_false, not_false_eq_true, rdE0, rdE1, rdE2, rdE3, rdE4, wE0, wE1, wE2, wE3, wE4, rdHn, wHc, r0]
    rw [ih (p + 1) _ _ _ (by omega) (by omega)]
    congr 2
    congr 1
    congr 1
    funext i
    unfold cpO cpI
    dsimp only
    by_cases q : i / 8 = p
    · rw [if_neg (show ¬ (p + 1 ≤ i / 8 ∧ i / 8 < i % 8 ∧ i % 8 < K 0 0 ∧ f (i / 8) = f (i % 8)) by omega), if_pos q]
      repeat' split
      all_goals first | rfl | omega
    · simp only [if_neg q]
      repeat' split
      all_goals first | rfl | omega

theorem s47 {nat : gNat} {d : Nat} {w : gWd} {x h m : Nat} {K : Lay} {hd st lo bp bq : Int} {A1 A2 A3 A4 f : Int → Int} (hx : x + 4 < gSTR) (hh : isHp w h) (hxh : h + 1 < x ∨ x + 4 < h) (hm : isMe w m K) (hK : vK K) (hmx : m + 3 < x ∨ x + 4 < m) (hmh : m + 3 < h ∨ h + 1 < m) (hf : ∀ x, 0 ≤ x → x < 8 → 0 ≤ f x ∧ f x < 8) : gC nat (d + 3) 47 [.ref x, .ref m, .ref h] (putH (putE w x hd st lo bp bq A1 A2 A3 A4) h f) = some (none, (putH (putE w x hd st lo bp bq A1 A2 A3 (cpO f A4 (K 0 0) 0)) h f)) := by
  rw [en47]
  simp (disch := first | omega | exact Nat.le_of_ble_eq_true rfl) only [e47_0, e47_1, e47_3, e47_4, e47_7, e47_10, e47_11, e47_12, e47_13, e47_17, e47_18, e47_21, e47_24, e47_25, e47_26, e47_28, e47_31, e47_34, e47_35, e47_37, e47_38, e47_40, e47_41, e47_43, e47_44, e47_47, e47_49, e47_50, e47_53, e47_55, e47_58, e47_59, e47_60, e47_63, e47_66, e47_72, e47_75, J_add, J_sub, J_mul, J_neg, J_lt, J_le, J_eq, gArr_J, gAst_J, gSiz_J, gFld_o, gUpd_o0, gUpd_o1, gUpd_o2, gUpd_o3, gUpd_o4, gUpd_o5, gUpd_o6, gUpd_o7, gUpd_o8, gUpd_o9, gUpd_o10, gUpd_o11, gUpd_o12, gUpd_o13, gUpd_o14, gUpd_o15, gUpd_o16, gUpd_o17, gUpd_o18, gIsO_o, Option.bind_some, List.getElem?_cons_zero, List.getElem?_cons_succ, List.length_cons, List.length_nil, List.set_cons_zero, List.set_cons_succ, gCat_nil, gCat_int, gCat_ref, if_pos, if_neg, Option.toList_some, Option.toList_none, List.cons_append, List.nil_append, B_nar, J1_nar, J0_nar, if_true, if_false, rd_wr_same, rd_wr_ne, true_and, and_true, B_0, B_1, not_true_eq_false, not_false_eq_true]
  exact l47 hx hh hxh hm hK hmx hmh hf (K 0 0).toNat 0 none none A4 (by have := hK.1; omega) (by omega)

/-- so many sets weighed: how many fit, the lowest, by pair -/
def wgh (K : Lay) (A1 A2 A3 : Int → Int) (N : Nat) : Nat → Int × Int × (Int → Int)
  | 0 => (0, -4, fun _ => 0)
  | n + 1 => if fitP (lab K n (K 0 1).toNat) A1 A2 A3 N = true then ((wgh K A1 A2 A3 N n).1 + 1, if (wgh K A1 A2 A3 N n).1 = 0 then (n : Int) else (wgh K A1 A2 A3 N n).2.1, cpO (lab K n (K 0 1).toNat) (wgh K A1 A2 A3 N n).2.2 (K 0 0) 0) else wgh K A1 A2 A3 N n
theorem wgh_in (K : Lay) (A1 A2 A3 : Int → Int) (N : Nat) : ∀ n : Nat, 0 ≤ (wgh K A1 A2 A3 N n).1 ∧ (wgh K A1 A2 A3 N n).1 ≤ n := by
  intro n
  induction n with
  | zero => exact ⟨Int.le_refl 0, Int.le_refl 0⟩
  | succ n ih =>
    unfold wgh
    split
    · show 0 ≤ (wgh K A1 A2 A3 N n).1 + 1 ∧ (wgh K A1 A2 A3 N n).1 + 1 ≤ _
      omega
    · omega
theorem pow256 {G : Nat} (h : G ≤ 8) : 2 ^ G ≤ 256 := Nat.le_trans (Nat.pow_le_pow_right (by decide) h) (Nat.le_refl _)
theorem l44 {nat : gNat} {d : Nat} {w : gWd} {x h m : Nat} {K : Lay} {hd bp bq : Int} {A1 A2 A3 : Int → Int} (hx : x + 4 < gSTR) (hh : isHp w h) (hxh : h + 1 < x ∨ x + 4 < h) (hm : isMe w m K) (hK : vK K) (hmx : m + 3 < x ∨ x + 4 < m) (hmh : m + 3 < h ∨ h + 1 < m) {N : Nat} (hN : hd = N) (hN8 : N ≤ 8) (hA : ∀ i : Int, 0 ≤ i → i < N → (0 ≤ A1 i ∧ A1 i < 8) ∧ (0 ≤ A2 i ∧ A2 i < 8) ∧ (0 ≤ A3 i ∧ A3 i ≤ 1)) {M : Nat} (hM2 : M ≤ 256) : ∀ (k n : Nat) (f : Int → Int), n + k = M → (∀ x, 8 ≤ x → f x = 0) → gX (gC nat (d + 3)) nat 44 14 [some (.ref x), some (.ref m), some (.ref h), some (.int (J M)), some (.int (J n))] [] [] (putH (putE w x hd (wgh K A1 A2 A3 N n).1 (wgh K A1 A2 A3 N n).2.1 bp bq A1 A2 A3 (wgh K A1 A2 A3 N n).2.2) h f) = some (none, (putH (putE w x hd (wgh K A1 A2 A3 N M).1 (wgh K A1 A2 A3 N M).2.1 bp bq A1 A2 A3 (wgh K A1 A2 A3 N M).2.2) h (if k = 0 then f else lab K (M - 1) (K 0 1).toNat))) := by
  subst hN
  have hh1 := hh.1
  have k0 := hK.1
  have k1 := hK.2.1
  have r0 : ∀ (hd st lo bp bq : Int) (A1 A2 A3 A4 f : Int → Int), rd (putH (putE w x hd st lo bp bq A1 A2 A3 A4) h f) m = oC 2 [.int (J (K 0 0)), .int (J (K 0 1)), .int (J (K 0 2)), .int (J (K 0 3)), .int (J (K 0 4)), .ref (m + 1), .ref (m + 2), .ref (m + 3)] := fun hd st lo bp bq A1 A2 A3 A4 f => by rw [rdHn (by omega), rdEn (by omega)]; exact hm.2.1
  have hE : ∀ (hd st lo bp bq : Int) (A1 A2 A3 A4 : Int → Int), isHp (putE w x hd st lo bp bq A1 A2 A3 A4) h := fun hd st lo bp bq A1 A2 A3 A4 => isHp_putE hh hxh
  have hE2 := fun hd st lo bp bq A1 A2 A3 A4 => (hE hd st lo bp bq A1 A2 A3 A4).2
  have hM : ∀ (hd st lo bp bq : Int) (A1 A2 A3 A4 : Int → Int), isMe (putE w x hd st lo bp bq A1 A2 A3 A4) m K := fun hd st lo bp bq A1 A2 A3 A4 => isMe_putE hmx hm
  intro k
  induction k with
  | zero =>
    intro n f hn hf
    rw [Nat.add_zero] at hn
    subst hn
    rw [if_pos rfl, e44_14]
    simp (disch := first | omega | exact Nat.le_of_ble_eq_true rfl) only [e44_0, e44_1, e44_4, e44_5, e44_6, e44_9, e44_10, e44_11, e44_12, e44_16, e44_17, e44_20, e44_21, e44_22, e44_24, e44_27, e44_28, e44_29, e44_32, e44_35, e44_36, e44_39, e44_42, e44_43, e44_45, e44_48, e44_49, e44_49i, e44_50, e44_53, e44_54, e44_55, e44_58, e44_59, e44_60, e44_61, e44_64, e44_67, e44_70, J_add, J_sub, J_mul, J_neg, J_lt, J_le, J_eq, gArr_J, gAst_J, gSiz_J, gFld_o, gUpd_o0, gUpd_o1, gUpd_o2, gUpd_o3, gUpd_o4, gUpd_o5, gUpd_o6, gUpd_o7, gUpd_o8, gUpd_o9, gUpd_o10, gUpd_o11, gUpd_o12, gUpd_o13, gUpd_o14, gUpd_o15, gUpd_o16, gUpd_o17, gUpd_o18, gIsO_o, Option.bind_some, List.getElem?_cons_zero, List.getElem?_cons_succ, List.length_cons, List.length_nil, List.set_cons_zero, List.set_cons_succ, gCat_nil, gCat_int, gCat_ref, if_pos, if_neg, Option.toList_some, Option.toList_none, List.cons_append, List.nil_append, B_nar, J1_nar, J0_nar, if_true, if_false, rd_wr_same, rd_wr_ne, true_and, and_true, B_0, B_1, not_true_eq_false, not_false_eq_true, rdE0, rdE1, rdE2, rdE3, rdE4, wE0, wE1, wE2, wE3, wE4, rdHn, wHc, r0]
  | succ k ih =>
    intro n f hn hf
    rw [if_neg (Nat.succ_ne_zero k)]
    have hl := lab_inK hK n
    have hb := wgh_in K A1 A2 A3 N n
    have c1 := s7 (nat := nat) (d := d) (w := putE w x N (wgh K A1 A2 A3 N n).1 (wgh K A1 A2 A3 N n).2.1 bp bq A1 A2 A3 (wgh K A1 A2 A3 N n).2.2) (f := f) (hM _ _ _ _ _ _ _ _ _) hK hmh (hE _ _ _ _ _ _ _ _ _) (s := n) (by omega) hf
    have c2 := s46 (nat := nat) (d := d) (w := w) (st := (wgh K A1 A2 A3 N n).1) (lo := (wgh K A1 A2 A3 N n).2.1) (bp := bp) (bq := bq) (A4 := (wgh K A1 A2 A3 N n).2.2) hx hh hxh hl (N := N) rfl hN8 hA
    have c3 := fun st lo => s47 (nat := nat) (d := d) (w := w) (hd := N) (st := st) (lo := lo) (bp := bp) (bq := bq) (A1 := A1) (A2 := A2) (A3 := A3) (A4 := (wgh K A1 A2 A3 N n).2.2) hx hh hxh hm hK hmx hmh hl
    have this := ih (n + 1) (lab K n (K 0 1).toNat) (by omega) (fun y hy => lab_far K n _ y hy)
    have e9 : (if k = 0 then lab K n (K 0 1).toNat else lab K (M - 1) (K 0 1).toNat) = lab K (M - 1) (K 0 1).toNat := by
      by_cases q : k = 0
      · rw [if_pos q, show M - 1 = n by omega]
      · rw [if_neg q]
    rw [show ((n + 1 : Nat) : Int) = (n : Int) + 1 from rfl, e9, wgh] at this
    rw [e44_14]
    by_cases q : fitP (lab K n (K 0 1).toNat) A1 A2 A3 N = true
    · rw [B_pos q] at c2
      rw [if_pos q] at this
      dsimp only at this
      by_cases q2 : (wgh K A1 A2 A3 N n).1 = 0
      · rw [if_pos q2, q2] at this
        rw [q2] at c1 c2 ⊢
        simp (disch := first | omega | exact Nat.le_of_ble_eq_true rfl) only [e44_0, e44_1, e44_4, e44_5, e44_6, e44_9, e44_10, e44_11, e44_12, e44_16, e44_17, e44_20, e44_21, e44_22, e44_24, e44_27, e44_28, e44_29, e44_32, e44_35, e44_36, e44_39, e44_42, e44_43, e44_45, e44_48, e44_49, e44_49i, e44_50, e44_53, e44_54, e44_55, e44_58, e44_59, e44_60, e44_61, e44_64, e44_67, e44_70, J_add, J_sub, J_mul, J_neg, J_lt, J_le, J_eq, gArr_J, gAst_J, gSiz_J, gFld_o, gUpd_o0, gUpd_o1, gUpd_o2, gUpd_o3, gUpd_o4, gUpd_o5, gUpd_o6, gUpd_o7, gUpd_o8, gUpd_o9, gUpd_o10, gUpd_o11, gUpd_o12, gUpd_o13, gUpd_o14, gUpd_o15, gUpd_o16, gUpd_o17, gUpd_o18, gIsO_o, Option.bind_some, List.getElem?_cons_zero, List.getElem?_cons_succ, List.length_cons, List.length_nil, List.set_cons_zero, List.set_cons_succ, gCat_nil, gCat_int, gCat_ref, if_pos, if_neg, Option.toList_some, Option.toList_none, List.cons_append, List.nil_append, B_nar, J1_nar, J0_nar, if_true, if_false, rd_wr_same, rd_wr_ne, true_and, and_true, B_0, B_1, not_true_eq_false, not_false_eq_true, rdE0, rdE1, rdE2, rdE3, rdE4, wE0, wE1, wE2, wE3, wE4, rdHn, wHc, r0, c1, c2, c3, hE2]
        exact this
      · rw [if_neg q2] at this
        have hne : ¬ (J (wgh K A1 A2 A3 N n).1 = J 0) := by rw [J_eq (by omega) (by omega)]; exact q2
        simp (disch := first | omega | exact Nat.le_of_ble_eq_true rfl) only [e44_0, e44_1, e44_4, e44_5, e44_6, e44_9, e44_10, e44_11, e44_12, e44_16, e44_17, e44_20, e44_21, e44_22, e44_24, e44_27, e44_28, e44_29, e44_32, e44_35, e44_36, e44_39, e44_42, e44_43, e44_45, e44_48, e44_49, e44_49i, e44_50, e44_53, e44_54, e44_55, e44_58, e44_59, e44_60, e44_61, e44_64, e44_67, e44_70, J_add, J_sub, J_mul, J_neg, J_lt, J_le, J_eq, gArr_J, gAst_J, gSiz_J, gFld_o, gUpd_o0, gUpd_o1, gUpd_o2, gUpd_o3, gUpd_o4, gUpd_o5, gUpd_o6, gUpd_o7, gUpd_o8, gUpd_o9, gUpd_o10, gUpd_o11, gUpd_o12, gUpd_o13, gUpd_o14, gUpd_o15, gUpd_o16, gUpd_o17, gUpd_o18, gIsO_o, Option.bind_some, List.getElem?_cons_zero, List.getElem?_cons_succ, List.length_cons, List.length_nil, List.set_cons_zero, List.set_cons_succ, gCat_nil, gCat_int, gCat_ref, if_pos, if_neg, Option.toList_some, Option.toList_none, List.cons_append, List.nil_append, B_nar, J1_nar, J0_nar, if_true, if_false, rd_wr_same, rd_wr_ne, true_and, and_true, B_0, B_1, not_true_eq_false, not_false_eq_true, rdE0, rdE1, rdE2, rdE3, rdE4, wE0, wE1, wE2, wE3, wE4, rdHn, wHc, r0, c1, c2, c3, hE2, hne]
        exact this
    · rw [B_neg q] at c2
      rw [if_neg q] at this
      simp (disch := first | omega | exact Nat.le_of_ble_eq_true rfl) only [e44_0, e44_1, e44_4, e44_5, e44_6, e44_9, e44_10, e44_11, e44_12, e44_16, e44_17, e44_20, e44_21, e44_22, e44_24, e44_27, e44_28, e44_29, e44_32, e44_35, e44_36, e44_39, e44_42, e44_43, e44_45, e44_48, e44_49, e44_49i, e44_50, e44_53, e44_54, e44_55, e44_58, e44_59, e44_60, e44_61, e44_64, e44_67, e44_70, J_add, J_sub, J_mul, J_neg, J_lt, J_le, J_eq, gArr_J, gAst_J, gSiz_J, gFld_o, gUpd_o0, gUpd_o1, gUpd_o2, gUpd_o3, gUpd_o4, gUpd_o5, gUpd_o6, gUpd_o7, gUpd_o8, gUpd_o9, gUpd_o10, gUpd_o11, gUpd_o12, gUpd_o13, gUpd_o14, gUpd_o15, gUpd_o16, gUpd_o17, gUpd_o18, gIsO_o, Option.bind_some, List.getElem?_cons_zero, List.getElem?_cons_succ, List.length_cons, List.length_nil, List.set_cons_zero, List.set_cons_succ, gCat_nil, gCat_int, gCat_ref, if_pos, if_neg, Option.toList_some, Option.toList_none, List.cons_append, List.nil_append, B_nar, J1_nar, J0_nar, if_true, if_false, rd_wr_same, rd_wr_ne, true_and, and_true, B_0, B_1, not_true_eq_false, not_false_eq_true, rdE0, rdE1, rdE2, rdE3, rdE4, wE0, wE1, wE2, wE3, wE4, rdHn, wHc, r0, c1, c2, hE2]
      exact this

theorem s44 {nat : gNat} {d : Nat} {w : gWd} {x h m : Nat} {K : Lay} {hd st lo bp bq : Int} {A1 A2 A3 A4 f : Int → Int} (hx : x + 4 < gSTR) (hh : isHp w h) (hxh : h + 1 < x ∨ x + 4 < h) (hm : isMe w m K) (hK : vK K) (hmx : m + 3 < x ∨ x + 4 < m) (hmh : m + 3 < h ∨ h + 1 < m) {N : Nat} (hN : hd = N) (hN8 : N ≤ 8) (hA : ∀ i : Int, 0 ≤ i → i < N → (0 ≤ A1 i ∧ A1 i < 8) ∧ (0 ≤ A2 i ∧ A2 i < 8) ∧ (0 ≤ A3 i ∧ A3 i ≤ 1)) (h4 : ∀ i : Int, 64 ≤ i → A4 i = 0) (hf : ∀ x, 8 ≤ x → f x = 0) : gC nat (d + 4) 44 [.ref x, .ref m, .ref h] (putH (putE w x hd st lo bp bq A1 A2 A3 A4) h f) = some (none, (putH (putE w x hd (wgh K A1 A2 A3 N (2 ^ (K 0 1).toNat)).1 (wgh K A1 A2 A3 N (2 ^ (K 0 1).toNat)).2.1 bp bq A1 A2 A3 (wgh K A1 A2 A3 N (2 ^ (K 0 1).toNat)).2.2) h (lab K (2 ^ (K 0 1).toNat - 1) (K 0 1).toNat))) := by
  rw [en44]
  have hh1 := hh.1
  have k0 := hK.1
  have k1 := hK.2.1
  have r0 : ∀ (hd st lo bp bq : Int) (A1 A2 A3 A4 f : Int → Int), rd (putH (putE w x hd st lo bp bq A1 A2 A3 A4) h f) m = oC 2 [.int (J (K 0 0)), .int (J (K 0 1)), .int (J (K 0 2)), .int (J (K 0 3)), .int (J (K 0 4)), .ref (m + 1), .ref (m + 2), .ref (m + 3)] := fun hd st lo bp bq A1 A2 A3 A4 f => by rw [rdHn (by omega), rdEn (by omega)]; exact hm.2.1
  have hE : ∀ (hd st lo bp bq : Int) (A1 A2 A3 A4 : Int → Int), isHp (putE w x hd st lo bp bq A1 A2 A3 A4) h := fun hd st lo bp bq A1 A2 A3 A4 => isHp_putE hh hxh
  have hE2 := fun hd st lo bp bq A1 A2 A3 A4 => (hE hd st lo bp bq A1 A2 A3 A4).2
  have hM : ∀ (hd st lo bp bq : Int) (A1 A2 A3 A4 : Int → Int), isMe (putE w x hd st lo bp bq A1 A2 A3 A4) m K := fun hd st lo bp bq A1 A2 A3 A4 => isMe_putE hmx hm
  have hp : 0 < 2 ^ (K 0 1).toNat := Nat.pow_pos (by decide)
  have c0 : gC nat (d + 3) 45 [.ref x] (putH (putE w x hd st lo bp bq A1 A2 A3 A4) h f) = some (none, putH (putE w x hd 0 (-4) bp bq A1 A2 A3 (fun _ => 0)) h f) := by
    have e : (putH (putE w x hd st lo bp bq A1 A2 A3 A4) h f) = putE (putH w h f) x hd st lo bp bq A1 A2 A3 A4 := putEH hxh
    rw [e, s45 (d := d + 2) hx h4, putEH hxh]
  have e1 : J 1 <<< (J (K 0 1) &&& 31) = J ((2 ^ (K 0 1).toNat : Nat) : Int) := J_shl (by omega)
  have this := l44 (nat := nat) (d := d) (w := w) (bp := bp) (bq := bq) hx hh hxh hm hK hmx hmh hN hN8 hA (M := 2 ^ (K 0 1).toNat) (pow256 (by omega)) (2 ^ (K 0 1).toNat) 0 f (by omega) hf
  rw [if_neg (by omega), wgh] at this
  simp (disch := first | omega | exact Nat.le_of_ble_eq_true rfl) only [e44_0, e44_1, e44_4, e44_5, e44_6, e44_9, e44_10, e44_11, e44_12, e44_16, e44_17, e44_20, e44_21, e44_22, e44_24, e44_27, e44_28, e44_29, e44_32, e44_35, e44_36, e44_39, e44_42, e44_43, e44_45, e44_48, e44_49, e44_49i, e44_50, e44_53, e44_54, e44_55, e44_58, e44_59, e44_60, e44_61, e44_64, e44_67, e44_70, J_add, J_sub, J_mul, J_neg, J_lt, J_le, J_eq, gArr_J, gAst_J, gSiz_J, gFld_o, gUpd_o0, gUpd_o1, gUpd_o2, gUpd_o3, gUpd_o4, gUpd_o5, gUpd_o6, gUpd_o7, gUpd_o8, gUpd_o9, gUpd_o10, gUpd_o11, gUpd_o12, gUpd_o13, gUpd_o14, gUpd_o15, gUpd_o16, gUpd_o17, gUpd_o18, gIsO_o, Option.bind_some, List.getElem?_cons_zero, List.getElem?_cons_succ, List.length_cons, List.length_nil, List.set_cons_zero, List.set_cons_succ, gCat_nil, gCat_int, gCat_ref, if_pos, if_neg, Option.toList_some, Option.toList_none, List.cons_append, List.nil_append, B_nar, J1_nar, J0_nar, if_true, if_false, rd_wr_same, rd_wr_ne, true_and, and_true, B_0, B_1, not_true_eq_false, not_false_eq_true, rdE0, rdE1, rdE2, rdE3, rdE4, wE0, wE1, wE2, wE3, wE4, rdHn, wHc, r0, c0, e1, hE2]
  exact this
