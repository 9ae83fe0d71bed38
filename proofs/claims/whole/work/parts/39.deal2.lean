def bit (s i : Nat) : Int := if s.testBit i = true then 1 else 0
theorem bit_in (s i : Nat) : 0 ≤ bit s i ∧ bit s i ≤ 1 := by
  unfold bit
  split
  · omega
  · omega
theorem J_bitB (s i : Nat) : B (s.testBit i = true) = J (bit s i) := by
  unfold B bit
  split
  · rfl
  · rfl
def nset (C : Int → Nat) (g : Int) (v : Nat) : Int → Nat := fun i => if i = g then v else C i
abbrev cI (C : Int → Nat) : Int → Int := fun i => ((C i : Nat) : Int)
theorem cI_nset {C : Int → Nat} {g : Int} {v : Nat} : fset (cI C) g v = cI (nset C g v) := by
  funext i
  unfold fset nset cI
  dsimp only
  split
  · rfl
  · rfl
theorem nset_back {C : Int → Nat} {g : Int} {v : Nat} : nset (nset C g v) g (C g) = C := by
  funext i
  unfold nset
  split
  · rename_i h
    rw [h]
  · rfl
def dl (K : Lay) (cl : Nat) (L : Int → Nat) : Nat → Int → Int → (Int → Int) → (Int → Nat) → (Int × (Int → Int)) → (Int × (Int → Int))
  | 0, _, c, G, _, b => if c ≤ b.1 then b else (c, G)
  | k + 1, y, c, G, C, b => if c + K 0 2 - y ≤ b.1 then b else
      dl K cl L k (y + 1) c (fset G y (-4)) C (rng (fun g b => if cl.testBit g = true then b else dl K cl L k (y + 1) (c - bit (L g) (C g) + bit (L g) (C g ||| 2 ^ y.toNat)) (fset G y g) (nset C g (C g ||| 2 ^ y.toNat)) b) (K 0 1).toNat b)
theorem dl_ok (K : Lay) (cl : Nat) (L : Int → Nat) : ∀ (k : Nat) (y c : Int) (G : Int → Int) (C : Int → Nat) (b : Int × (Int → Int)), (k : Int) ≤ 4 → (-(6 - k) ≤ c ∧ c ≤ 20 - k) → (-10 ≤ b.1 ∧ b.1 < 100) → -10 ≤ (dl K cl L k y c G C b).1 ∧ (dl K cl L k y c G C b).1 < 100 := by
  intro k
  induction k with
  | zero =>
    intro y c G C b hk hc hb
    rw [dl]
    split
    · exact hb
    · dsimp only
      omega
  | succ k ih =>
    intro y c G C b hk hc hb
    rw [dl]
    split
    · exact hb
    · refine ih _ _ _ _ _ (by omega) (by omega) ?_
      refine rng_ok (P := fun b : Int × (Int → Int) => -10 ≤ b.1 ∧ b.1 < 100) _ _ hb fun g b _ hb => ?_
      split
      · exact hb
      · have h1 := bit_in (L g) (C g)
        have h2 := bit_in (L g) (C g ||| 2 ^ y.toNat)
        exact ih _ _ _ _ _ (by omega) (by omega) hb

theorem s4 {nat : gNat} {w : gWd} {x m : Nat} {K : Lay} {cl : Nat} {L : Int → Nat} (hK : vK K) (hm : isMe w m K) (hx : x + 4 < gSTR) (hmx : m + 3 < x ∨ x + 4 < m) (hcl : cl < 256) (hL : ∀ i, L i < 65536) {k : Nat} (ih : ∀ (d : Nat) (y c : Int) (B1 G G0 : Int → Int) (C : Int → Nat) (b : Int × (Int → Int)), y + (k : Nat) = K 0 2 → 0 ≤ y → (-(6 - (k : Nat)) ≤ c ∧ c ≤ 20 - (k : Nat)) → (-10 ≤ b.1 ∧ b.1 < 100) → (∀ i, 0 ≤ i → i < y → G i = G0 i) → (∀ i, 0 ≤ i → i < K 0 2 → B1 i = b.2 i) → (∀ i, C i < 16) → ∃ B' G', gC nat (d + 2 * k + 3) 3 [.ref x, .ref m, .int (J cl), .int (J y), .int (J c)] (putD w x b.1 B1 G (cI C) (cI L)) = some (none, (putD w x (dl K cl L k y c G0 C b).1 B' G' (cI C) (cI L))) ∧ (∀ i, 0 ≤ i → i < K 0 2 → B' i = (dl K cl L k y c G0 C b).2 i) ∧ (∀ i, 0 ≤ i → i < y → G' i = G i)) (d : Nat) {y c : Int} {B1 G G0 : Int → Int} {C : Int → Nat} {b : Int × (Int → Int)} (h0 : y + (k + 1 : Nat) = K 0 2) (h1 : 0 ≤ y) (hc : -(6 - (k + 1 : Nat)) ≤ c ∧ c ≤ 20 - (k + 1 : Nat)) (hb : -10 ≤ b.1 ∧ b.1 < 100) (hG : ∀ i, 0 ≤ i → i < y → G i = G0 i) (hB : ∀ i, 0 ≤ i → i < K 0 2 → B1 i = b.2 i) (hC : ∀ i, C i < 16) {g : Int} (hg : 0 ≤ g ∧ g < K 0 1) : ∃ B' G', gC nat (d + 2 * k + 4) 4 [.ref x, .ref m, .int (J cl), .int (J y), .int (J c), .int (J g)] (putD w x b.1 B1 G (cI C) (cI L)) = some (none, (putD w x (dl K cl L k (y + 1) (c - bit (L g) (C g) + bit (L g) (C g ||| 2 ^ y.toNat)) (fset G0 y g) (nset C g (C g ||| 2 ^ y.toNat)) b).1 B' G' (cI C) (cI L))) ∧ (∀ i, 0 ≤ i → i < K 0 2 → B' i = (dl K cl L k (y + 1) (c - bit (L g) (C g) + bit (L g) (C g ||| 2 ^ y.toNat)) (fset G0 y g) (nset C g (C g ||| 2 ^ y.toNat)) b).2 i) ∧ (∀ i, 0 ≤ i → i < y → G' i = G i) := by
  have k1 := hK.2.1
  have k2 := hK.2.2.1
  have x2 : x + 2 < gSTR := by omega
  have x3 : x + 3 < gSTR := by omega
  have hbig : C g ||| 2 ^ y.toNat < 16 := by
    have hy : y.toNat < 4 := by omega
    have h2 : 2 ^ y.toNat < 2 ^ 4 := Nat.pow_lt_pow_right (by decide) hy
    exact Nat.or_lt_two_pow (n := 4) (hC g) h2
  have b1 := bit_in (L g) (C g)
  have b2 := bit_in (L g) (C g ||| 2 ^ y.toNat)
  have r : ∀ mo B G C, rd (putD w x mo B G C (cI L)) m = oC 2 [.int (J (K 0 0)), .int (J (K 0 1)), .int (J (K 0 2)), .int (J (K 0 3)), .int (J (K 0 4)), .ref (m + 1), .ref (m + 2), .ref (m + 3)] := fun mo B G C => by rw [rdDn (by omega)]; exact hm.2.1
  have c1 := s117 (nat := nat) (d := d + 2 * k + 2) (w := (putD w x b.1 B1 G (cI C) (cI L))) (a := x + 3) (n := 8) (f := cI C) (i := g) rdD3 x3 (by omega) (by omega)
  have c2 := s117 (nat := nat) (d := d + 2 * k + 2) (w := (putD w x b.1 B1 G (cI C) (cI L))) (a := x + 4) (n := 8) (f := cI L) (i := g) rdD4 hx (by omega) (by omega)
  have c3 : gC nat (d + 2 * k + 3) 118 [.ref (x + 2), .int (J y), .int (J g)] (putD w x b.1 B1 G (cI C) (cI L)) = some (none, (putD w x b.1 B1 (fset G y g) (cI C) (cI L))) := by rw [s118 rdD2 x2 (by omega) (by omega), wD2]
  have c4 : ∀ mo B G (C : Int → Nat) (v : Nat), gC nat (d + 2 * k + 3) 118 [.ref (x + 3), .int (J g), .int (J v)] (putD w x mo B G (cI C) (cI L)) = some (none, putD w x mo B G (cI (nset C g v)) (cI L)) := fun mo B G C v => by rw [s118 rdD3 x3 (by omega) (by omega), wD3, cI_nset]
  have c5 := fun w => s115 (nat := nat) (d := d + 2 * k + 2) (w := w) (s := L g) (g := (C g : Int)) (by have := hL g; omega) (by have := hC g; omega)
  have c6 := fun w => s115 (nat := nat) (d := d + 2 * k + 2) (w := w) (s := L g) (g := ((C g ||| 2 ^ y.toNat : Nat) : Int)) (by have := hL g; omega) (by omega)
  rw [Int.toNat_natCast, J_bitB] at c5 c6
  obtain ⟨B', G', g1, g2, g3⟩ := ih d (y + 1) (c - bit (L g) (C g) + bit (L g) (C g ||| 2 ^ y.toNat)) B1 (fset G y g) (fset G0 y g) (nset C g (C g ||| 2 ^ y.toNat)) b (by omega) (by omega) (by omega) hb (fun i i1 i2 => by
    by_cases q : i = y
    · rw [q, fset_at, fset_at]
    · rw [fset_ne q, fset_ne q]; exact hG i i1 (by omega)) hB (fun i => by
    unfold nset
    split
    · exact hbig
    · exact hC i)
  refine ⟨B', G', ?_, g2, fun i i1 i2 => by rw [g3 i i1 (by omega), fset_ne (by omega)]⟩
  have hsh := J_shl (g := y) (by omega)
  rw [en4]
  simp (disch := first | omega | exact Nat.le_of_ble_eq_true rfl) only [e4_0, e4_1, e4_4, e4_6, e4_9, e4_11, e4_13, e4_14, e4_15, e4_16, e4_17, e4_19, e4_20, e4_23, e4_25, e4_28, e4_30, e4_31, e4_34, e4_35, e4_37, e4_40, e4_41, e4_44, e4_46, e4_48, e4_51, e4_52, e4_53, e4_54, e4_55, e4_56, e4_57, e4_59, e4_61, e4_63, e4_66, e4_67, e4_69, e4_71, e4_74, e4_75, e4_78, e4_79, e4_82, e4_84, e4_86, e4_89, J_add, J_sub, J_mul, J_neg, J_lt, J_le, J_eq, gArr_J, gAst_J, gSiz_J, gFld_o, gUpd_o0, gUpd_o1, gUpd_o2, gUpd_o3, gUpd_o4, gUpd_o5, gUpd_o6, gUpd_o7, gUpd_o8, gUpd_o9, gUpd_o10, gUpd_o11, gUpd_o12, gUpd_o13, gUpd_o14, gUpd_o15, gUpd_o16, gUpd_o17, gUpd_o18, gIsO_o, Option.bind_some, List.getElem?_cons_zero, List.getElem?_cons_succ, List.length_cons, List.length_nil, List.set_cons_zero, List.set_cons_succ, gCat_nil, gCat_int, gCat_ref, if_pos, if_neg, Option.toList_some, Option.toList_none, List.cons_append, List.nil_append, B_nar, J1_nar, J0_nar, if_true, if_false, rd_wr_same, rd_wr_ne, true_and, and_true, B_0, B_1, not_true_eq_false, not_false_eq_true, rdD0, r, c1, c2, c3, c4, c5, c6, hsh, J_or, g1, nset_back]

theorem s3 {nat : gNat} {w : gWd} {x m : Nat} {K : Lay} {cl : Nat} {L : Int → Nat} (hK : vK K) (hm : isMe w m K) (hx : x + 4 < gSTR) (hmx : m + 3 < x ∨ x + 4 < m) (hcl : cl < 256) (hL : ∀ i, L i < 65536) : ∀ k : Nat, ∀ (d : Nat) (y c : Int) (B1 G G0 : Int → Int) (C : Int → Nat) (b : Int × (Int → Int)), y + (k : Nat) = K 0 2 → 0 ≤ y → (-(6 - (k : Nat)) ≤ c ∧ c ≤ 20 - (k : Nat)) → (-10 ≤ b.1 ∧ b.1 < 100) → (∀ i, 0 ≤ i → i < y → G i = G0 i) → (∀ i, 0 ≤ i → i < K 0 2 → B1 i = b.2 i) → (∀ i, C i < 16) → ∃ B' G', gC nat (d + 2 * k + 3) 3 [.ref x, .ref m, .int (J cl), .int (J y), .int (J c)] (putD w x b.1 B1 G (cI C) (cI L)) = some (none, (putD w x (dl K cl L k y c G0 C b).1 B' G' (cI C) (cI L))) ∧ (∀ i, 0 ≤ i → i < K 0 2 → B' i = (dl K cl L k y c G0 C b).2 i) ∧ (∀ i, 0 ≤ i → i < y → G' i = G i) := by
  have k1 := hK.2.1
  have k2 := hK.2.2.1
  have x2 : x + 2 < gSTR := by omega
  have r : ∀ mo B G C, rd (putD w x mo B G C (cI L)) m = oC 2 [.int (J (K 0 0)), .int (J (K 0 1)), .int (J (K 0 2)), .int (J (K 0 3)), .int (J (K 0 4)), .ref (m + 1), .ref (m + 2), .ref (m + 3)] := fun mo B G C => by rw [rdDn (by omega)]; exact hm.2.1
  intro k
  induction k with
  | zero =>
    intro d y c B1 G G0 C b h0 h1 hc hb hG hB hC
    have c1 := s5 (nat := nat) (d := d) (w := w) (x := x) (mo := b.1) (A1 := B1) (A2 := G) (A3 := cI C) (A4 := cI L) hx (c := c) (by omega) (by omega)
    rw [dl]
    show ∃ B' G', gC nat (d + 3) 3 _ _ = _ ∧ _
    by_cases h : c ≤ b.1
    · rw [if_pos h] at c1 ⊢
      refine ⟨B1, G, ?_, hB, fun _ _ _ => rfl⟩
      rw [en3]
      simp (disch := first | omega | exact Nat.le_of_ble_eq_true rfl) only [e3_0, e3_1, e3_2, e3_5, e3_8, e3_9, e3_10, e3_13, e3_14, e3_16, e3_19, e3_20, e3_22, e3_23, e3_26, e3_27, e3_28, e3_29, e3_30, e3_33, e3_36, e3_37, e3_38, e3_42, e3_43, e3_46, e3_49, e3_50, e3_52, e3_55, e3_58, e3_59, e3_60, e3_61, e3_62, e3_64, e3_66, e3_69, e3_72, e3_75, e3_76, e3_79, e3_80, e3_82, e3_85, e3_86, e3_87, e3_88, e3_89, e3_90, e3_91, e3_93, e3_96, J_add, J_sub, J_mul, J_neg, J_lt, J_le, J_eq, gArr_J, gAst_J, gSiz_J, gFld_o, gUpd_o0, gUpd_o1, gUpd_o2, gUpd_o3, gUpd_o4, gUpd_o5, gUpd_o6, gUpd_o7, gUpd_o8, gUpd_o9, gUpd_o10, gUpd_o11, gUpd_o12, gUpd_o13, gUpd_o14, gUpd_o15, gUpd_o16, gUpd_o17, gUpd_o18, gIsO_o, Option.bind_some, List.getElem?_cons_zero, List.getElem?_cons_succ, List.length_cons, List.length_nil, List.set_cons_zero, List.set_cons_succ, gCat_nil, gCat_int, gCat_ref, if_pos, if_neg, Option.toList_some, Option.toList_none, List.cons_append, List.nil_append, B_nar, J1_nar, J0_nar, if_true, if_false, rd_wr_same, rd_wr_ne, true_and, and_true, B_0, B_1, not_true_eq_false, not_false_eq_true, rdD0, r, c1]
    · rw [if_neg h] at c1 ⊢
      refine ⟨fun i => if 0 ≤ i ∧ i < 4 then G i else B1 i, G, ?_, fun i i1 i2 => ?_, fun _ _ _ => rfl⟩
      · rw [en3]
        simp (disch := first | omega | exact Nat.le_of_ble_eq_true rfl) only [e3_0, e3_1, e3_2, e3_5, e3_8, e3_9, e3_10, e3_13, e3_14, e3_16, e3_19, e3_20, e3_22, e3_23, e3_26, e3_27, e3_28, e3_29, e3_30, e3_33, e3_36, e3_37, e3_38, e3_42, e3_43, e3_46, e3_49, e3_50, e3_52, e3_55, e3_58, e3_59, e3_60, e3_61, e3_62, e3_64, e3_66, e3_69, e3_72, e3_75, e3_76, e3_79, e3_80, e3_82, e3_85, e3_86, e3_87, e3_88, e3_89, e3_90, e3_91, e3_93, e3_96, J_add, J_sub, J_mul, J_neg, J_lt, J_le, J_eq, gArr_J, gAst_J, gSiz_J, gFld_o, gUpd_o0, gUpd_o1, gUpd_o2, gUpd_o3, gUpd_o4, gUpd_o5, gUpd_o6, gUpd_o7, gUpd_o8, gUpd_o9, gUpd_o10, gUpd_o11, gUpd_o12, gUpd_o13, gUpd_o14, gUpd_o15, gUpd_o16, gUpd_o17, gUpd_o18, gIsO_o, Option.bind_some, List.getElem?_cons_zero, List.getElem?_cons_succ, List.length_cons, List.length_nil, List.set_cons_zero, List.set_cons_succ, gCat_nil, gCat_int, gCat_ref, if_pos, if_neg, Option.toList_some, Option.toList_none, List.cons_append, List.nil_append, B_nar, J1_nar, J0_nar, if_true, if_false, rd_wr_same, rd_wr_ne, true_and, and_true, B_0, B_1, not_true_eq_false, not_false_eq_true, rdD0, r, c1]
      · dsimp only
        rw [if_pos ⟨i1, by omega⟩]
        exact hG i i1 (by omega)
  | succ k ih =>
    intro d y c B1 G G0 C b h0 h1 hc hb hG hB hC
    rw [dl]
    by_cases h : c + K 0 2 - y ≤ b.1
    · rw [if_pos h]
      refine ⟨B1, G, ?_, hB, fun _ _ _ => rfl⟩
      show gC nat (d + 2 * k + 5) 3 _ _ = _
      rw [en3]
      simp (disch := first | omega | exact Nat.le_of_ble_eq_true rfl) only [e3_0, e3_1, e3_2, e3_5, e3_8, e3_9, e3_10, e3_13, e3_14, e3_16, e3_19, e3_20, e3_22, e3_23, e3_26, e3_27, e3_28, e3_29, e3_30, e3_33, e3_36, e3_37, e3_38, e3_42, e3_43, e3_46, e3_49, e3_50, e3_52, e3_55, e3_58, e3_59, e3_60, e3_61, e3_62, e3_64, e3_66, e3_69, e3_72, e3_75, e3_76, e3_79, e3_80, e3_82, e3_85, e3_86, e3_87, e3_88, e3_89, e3_90, e3_91, e3_93, e3_96, J_add, J_sub, J_mul, J_neg, J_lt, J_le, J_eq, gArr_J, gAst_J, gSiz_J, gFld_o, gUpd_o0, gUpd_o1, gUpd_o2, gUpd_o3, gUpd_o4, gUpd_o5, gUpd_o6, gUpd_o7, gUpd_o8, gUpd_o9, gUpd_o10, gUpd_o11, gUpd_o12, gUpd_o13, gUpd_o14, gUpd_o15, gUpd_o16, gUpd_o17, gUpd_o18, gIsO_o, Option.bind_some, List.getElem?_cons_zero, List.getElem?_cons_succ, List.length_cons, List.length_nil, List.set_cons_zero, List.set_cons_succ, gCat_nil, gCat_int, gCat_ref, if_pos, if_neg, Option.toList_some, Option.toList_none, List.cons_append, List.nil_append, B_nar, J1_nar, J0_nar, if_true, if_false, rd_wr_same, rd_wr_ne, true_and, and_true, B_0, B_1, not_true_eq_false, not_false_eq_true, rdD0, r]
    · rw [if_neg h]
      have hl : ∀ (j n : Nat) (B1 G : Int → Int) (b1 : Int × (Int → Int)), n + j = (K 0 1).toNat → (-10 ≤ b1.1 ∧ b1.1 < 100) → (∀ i, 0 ≤ i → i < y → G i = G0 i) → (∀ i, 0 ≤ i → i < K 0 2 → B1 i = b1.2 i) → b1 = rng (fun g b => if cl.testBit g = true then b else dl K cl L k (y + 1) (c - bit (L g) (C g) + bit (L g) (C g ||| 2 ^ y.toNat)) (fset G0 y g) (nset C g (C g ||| 2 ^ y.toNat)) b) n b → ∃ B' G', gX (gC nat (d + 2 * k + 4)) nat 3 40 [some (.ref x), some (.ref m), some (.int (J cl)), some (.int (J y)), some (.int (J c)), some (.int (J n))] [] [] (putD w x b1.1 B1 G (cI C) (cI L)) = gX (gC nat (d + 2 * k + 4)) nat 3 75 [some (.ref x), some (.ref m), some (.int (J cl)), some (.int (J y)), some (.int (J c)), some (.int (J (K 0 1)))] [] [] (putD w x (rng (fun g b => if cl.testBit g = true then b else dl K cl L k (y + 1) (c - bit (L g) (C g) + bit (L g) (C g ||| 2 ^ y.toNat)) (fset G0 y g) (nset C g (C g ||| 2 ^ y.toNat)) b) (K 0 1).toNat b).1 B' G' (cI C) (cI L)) ∧ (∀ i, 0 ≤ i → i < K 0 2 → B' i = (rng (fun g b => if cl.testBit g = true then b else dl K cl L k (y + 1) (c - bit (L g) (C g) + bit (L g) (C g ||| 2 ^ y.toNat)) (fset G0 y g) (nset C g (C g ||| 2 ^ y.toNat)) b) (K 0 1).toNat b).2 i) ∧ (∀ i, 0 ≤ i → i < y → G' i = G0 i) := by
        intro j
        induction j with
        | zero =>
          intro n B1 G b1 hn hb1 hG1 hB1 e1
          rw [Nat.add_zero] at hn
          subst hn
          rw [← e1]
          refine ⟨B1, G, ?_, hB1, hG1⟩
          rw [e3_40, show (((K 0 1).toNat : Nat) : Int) = K 0 1 by omega]
          simp (disch := first | omega | exact Nat.le_of_ble_eq_true rfl) only [e3_0, e3_1, e3_2, e3_5, e3_8, e3_9, e3_10, e3_13, e3_14, e3_16, e3_19, e3_20, e3_22, e3_23, e3_26, e3_27, e3_28, e3_29, e3_30, e3_33, e3_36, e3_37, e3_38, e3_42, e3_43, e3_46, e3_49, e3_50, e3_52, e3_55, e3_58, e3_59, e3_60, e3_61, e3_62, e3_64, e3_66, e3_69, e3_72, e3_76, e3_79, e3_80, e3_82, e3_85, e3_86, e3_87, e3_88, e3_89, e3_90, e3_91, e3_93, e3_96, J_add, J_sub, J_mul, J_neg, J_lt, J_le, J_eq, gArr_J, gAst_J, gSiz_J, gFld_o, gUpd_o0, gUpd_o1, gUpd_o2, gUpd_o3, gUpd_o4, gUpd_o5, gUpd_o6, gUpd_o7, gUpd_o8, gUpd_o9, gUpd_o10, gUpd_o11, gUpd_o12, gUpd_o13, gUpd_o14, gUpd_o15, gUpd_o16, gUpd_o17, gUpd_o18, gIsO_o, Option.bind_some, List.getElem?_cons_zero, List.getElem?_cons_succ, List.length_cons, List.length_nil, List.set_cons_zero, List.set_cons_succ, gCat_nil, gCat_int, gCat_ref, if_pos, if_neg, Option.toList_some, Option.toList_none, List.cons_append, List.nil_append, B_nar, J1_nar, J0_nar, if_true, if_false, rd_wr_same, rd_wr_ne, true_and, and_true, B_0, B_1, not_true_eq_false, not_false_eq_true, rdD0, r]
        | succ j ihj =>
          intro n B1 G b1 hn hb1 hG1 hB1 e1
          have c1 := fun w => s114 (nat := nat) (d := d + 2 * k + 2) (w := w) (s := cl) (g := (n : Int)) (by omega) (by omega)
          rw [Int.toNat_natCast] at c1
          rw [e3_40]
          by_cases hbt : cl.testBit n = true
          · rw [B_pos hbt] at c1
            obtain ⟨B', G', g1, g2⟩ := ihj (n + 1) B1 G b1 (by omega) hb1 hG1 hB1 (by rw [rng, if_pos hbt]; exact e1)
            refine ⟨B', G', ?_, g2⟩
            rw [← g1, show ((n + 1 : Nat) : Int) = (n : Int) + 1 from rfl]
            simp (disch := first | omega | exact Nat.le_of_ble_eq_true rfl) only [e3_0, e3_1, e3_2, e3_5, e3_8, e3_9, e3_10, e3_13, e3_14, e3_16, e3_19, e3_20, e3_22, e3_23, e3_26, e3_27, e3_28, e3_29, e3_30, e3_33, e3_36, e3_37, e3_38, e3_42, e3_43, e3_46, e3_49, e3_50, e3_52, e3_55, e3_58, e3_59, e3_60, e3_61, e3_62, e3_64, e3_66, e3_69, e3_72, e3_76, e3_79, e3_80, e3_82, e3_85, e3_86, e3_87, e3_88, e3_89, e3_90, e3_91, e3_93, e3_96, J_add, J_sub, J_mul, J_neg, J_lt, J_le, J_eq, gArr_J, gAst_J, gSiz_J, gFld_o, gUpd_o0, gUpd_o1, gUpd_o2, gUpd_o3, gUpd_o4, gUpd_o5, gUpd_o6, gUpd_o7, gUpd_o8, gUpd_o9, gUpd_o10, gUpd_o11, gUpd_o12, gUpd_o13, gUpd_o14, gUpd_o15, gUpd_o16, gUpd_o17, gUpd_o18, gIsO_o, Option.bind_some, List.getElem?_cons_zero, List.getElem?_cons_succ, List.length_cons, List.length_nil, List.set_cons_zero, List.set_cons_succ, gCat_nil, gCat_int, gCat_ref, if_pos, if_neg, Option.toList_some, Option.toList_none, List.cons_append, List.nil_append, B_nar, J1_nar, J0_nar, if_true, if_false, rd_wr_same, rd_wr_ne, true_and, and_true, B_0, B_1, not_true_eq_false, not_false_eq_true, rdD0, r, c1]
          · rw [B_neg hbt] at c1
            obtain ⟨B2, G2, f1, f2, f3⟩ := s4 hK hm hx hmx hcl hL ih d (y := y) (c := c) (B1 := B1) (G := G) (G0 := G0) (C := C) (b := b1) h0 h1 hc hb1 hG1 hB1 hC (g := n) (by omega)
            have q1 := bit_in (L n) (C n)
            have q2 := bit_in (L n) (C n ||| 2 ^ y.toNat)
            obtain ⟨B', G', g1, g2⟩ := ihj (n + 1) B2 G2 _ (by omega) (dl_ok K cl L k _ _ _ _ _ (by omega) (by omega) hb1) (fun i i1 i2 => by rw [f3 i i1 i2]; exact hG1 i i1 i2) f2 (by rw [rng, if_neg hbt, e1])
            refine ⟨B', G', ?_, g2⟩
            rw [← g1, show ((n + 1 : Nat) : Int) = (n : Int) + 1 from rfl]
            simp (disch := first | omega | exact Nat.le_of_ble_eq_true rfl) only [e3_0, e3_1, e3_2, e3_5, e3_8, e3_9, e3_10, e3_13, e3_14, e3_16, e3_19, e3_20, e3_22, e3_23, e3_26, e3_27, e3_28, e3_29, e3_30, e3_33, e3_36, e3_37, e3_38, e3_42, e3_43, e3_46, e3_49, e3_50, e3_52, e3_55, e3_58, e3_59, e3_60, e3_61, e3_62, e3_64, e3_66, e3_69, e3_72, e3_76, e3_79, e3_80, e3_82, e3_85, e3_86, e3_87, e3_88, e3_89, e3_90, e3_91, e3_93, e3_96, J_add, J_sub, J_mul, J_neg, J_lt, J_le, J_eq, gArr_J, gAst_J, gSiz_J, gFld_o, gUpd_o0, gUpd_o1, gUpd_o2, gUpd_o3, gUpd_o4, gUpd_o5, gUpd_o6, gUpd_o7, gUpd_o8, gUpd_o9, gUpd_o10, gUpd_o11, gUpd_o12, gUpd_o13, gUpd_o14, gUpd_o15, gUpd_o16, gUpd_o17, gUpd_o18, gIsO_o, Option.bind_some, List.getElem?_cons_zero, List.getElem?_cons_succ, List.length_cons, List.length_nil, List.set_cons_zero, List.set_cons_succ, gCat_nil, gCat_int, gCat_ref, if_pos, if_neg, Option.toList_some, Option.toList_none, List.cons_append, List.nil_append, B_nar, J1_nar, J0_nar, if_true, if_false, rd_wr_same, rd_wr_ne, true_and, and_true, B_0, B_1, not_true_eq_false, not_false_eq_true, rdD0, r, c1, f1]
      obtain ⟨B2, G2, g1, g2, g3⟩ := hl (K 0 1).toNat 0 B1 G b (by omega) hb hG hB rfl
      rw [show ((0 : Nat) : Int) = 0 from rfl] at g1
      have hb2 : -10 ≤ (rng (fun g b => if cl.testBit g = true then b else dl K cl L k (y + 1) (c - bit (L g) (C g) + bit (L g) (C g ||| 2 ^ y.toNat)) (fset G0 y g) (nset C g (C g ||| 2 ^ y.toNat)) b) (K 0 1).toNat b).1 ∧ (rng (fun g b => if cl.testBit g = true then b else dl K cl L k (y + 1) (c - bit (L g) (C g) + bit (L g) (C g ||| 2 ^ y.toNat)) (fset G0 y g) (nset C g (C g ||| 2 ^ y.toNat)) b) (K 0 1).toNat b).1 < 100 := by
        refine rng_ok (P := fun b : Int × (Int → Int) => -10 ≤ b.1 ∧ b.1 < 100) _ _ hb fun g b _ hb => ?_
        split
        · exact hb
        · have h1 := bit_in (L g) (C g)
          have h2 := bit_in (L g) (C g ||| 2 ^ y.toNat)
          exact dl_ok K cl L k _ _ _ _ _ (by omega) (by omega) hb
      generalize rng (fun g b => if cl.testBit g = true then b else dl K cl L k (y + 1) (c - bit (L g) (C g) + bit (L g) (C g ||| 2 ^ y.toNat)) (fset G0 y g) (nset C g (C g ||| 2 ^ y.toNat)) b) (K 0 1).toNat b = b2 at *
      obtain ⟨B3, G3, f1, f2, f3⟩ := ih (d + 1) (y + 1) c B2 (fset G2 y (-4)) (fset G0 y (-4)) C b2 (by omega) (by omega) (by omega) hb2 (fun i i1 i2 => by
        by_cases q : i = y
        · rw [q, fset_at, fset_at]
        · rw [fset_ne q, fset_ne q]; exact g3 i i1 (by omega)) g2 hC
      rw [show d + 1 + 2 * k + 3 = d + 2 * k + 4 by omega] at f1
      refine ⟨B3, G3, ?_, f2, fun i i1 i2 => by rw [f3 i i1 (by omega), fset_ne (by omega), g3 i i1 i2, hG i i1 i2]⟩
      have c3 : gC nat (d + 2 * k + 4) 118 [.ref (x + 2), .int (J y), .int (J (-4))] (putD w x b2.1 B2 G2 (cI C) (cI L)) = some (none, (putD w x b2.1 B2 (fset G2 y (-4)) (cI C) (cI L))) := by rw [s118 rdD2 x2 (by omega) (by omega), wD2]
      show gC nat (d + 2 * k + 5) 3 _ _ = _
      rw [en3]
      simp (disch := first | omega | exact Nat.le_of_ble_eq_true rfl) only [e3_0, e3_1, e3_2, e3_5, e3_8, e3_9, e3_10, e3_13, e3_14, e3_16, e3_19, e3_20, e3_22, e3_23, e3_26, e3_27, e3_28, e3_29, e3_30, e3_33, e3_36, e3_37, e3_38, e3_42, e3_43, e3_46, e3_49, e3_50, e3_52, e3_55, e3_58, e3_59, e3_60, e3_61, e3_62, e3_64, e3_66, e3_69, e3_72, e3_76, e3_79, e3_80, e3_82, e3_85, e3_86, e3_87, e3_88, e3_89, e3_90, e3_91, e3_93, e3_96, J_add, J_sub, J_mul, J_neg, J_lt, J_le, J_eq, gArr_J, gAst_J, gSiz_J, gFld_o, gUpd_o0, gUpd_o1, gUpd_o2, gUpd_o3, gUpd_o4, gUpd_o5, gUpd_o6, gUpd_o7, gUpd_o8, gUpd_o9, gUpd_o10, gUpd_o11, gUpd_o12, gUpd_o13, gUpd_o14, gUpd_o15, gUpd_o16, gUpd_o17, gUpd_o18, gIsO_o, Option.bind_some, List.getElem?_cons_zero, List.getElem?_cons_succ, List.length_cons, List.length_nil, List.set_cons_zero, List.set_cons_succ, gCat_nil, gCat_int, gCat_ref, if_pos, if_neg, Option.toList_some, Option.toList_none, List.cons_append, List.nil_append, B_nar, J1_nar, J0_nar, if_true, if_false, rd_wr_same, rd_wr_ne, true_and, and_true, B_0, B_1, not_true_eq_false, not_false_eq_true, rdD0, r, g1]
      rw [e3_75]
      simp (disch := first | omega | exact Nat.le_of_ble_eq_true rfl) only [e3_0, e3_1, e3_2, e3_5, e3_8, e3_9, e3_10, e3_13, e3_14, e3_16, e3_19, e3_20, e3_22, e3_23, e3_26, e3_27, e3_28, e3_29, e3_30, e3_33, e3_36, e3_37, e3_38, e3_42, e3_43, e3_46, e3_49, e3_50, e3_52, e3_55, e3_58, e3_59, e3_60, e3_61, e3_62, e3_64, e3_66, e3_69, e3_72, e3_76, e3_79, e3_80, e3_82, e3_85, e3_86, e3_87, e3_88, e3_89, e3_90, e3_91, e3_93, e3_96, J_add, J_sub, J_mul, J_neg, J_lt, J_le, J_eq, gArr_J, gAst_J, gSiz_J, gFld_o, gUpd_o0, gUpd_o1, gUpd_o2, gUpd_o3, gUpd_o4, gUpd_o5, gUpd_o6, gUpd_o7, gUpd_o8, gUpd_o9, gUpd_o10, gUpd_o11, gUpd_o12, gUpd_o13, gUpd_o14, gUpd_o15, gUpd_o16, gUpd_o17, gUpd_o18, gIsO_o, Option.bind_some, List.getElem?_cons_zero, List.getElem?_cons_succ, List.length_cons, List.length_nil, List.set_cons_zero, List.set_cons_succ, gCat_nil, gCat_int, gCat_ref, if_pos, if_neg, Option.toList_some, Option.toList_none, List.cons_append, List.nil_append, B_nar, J1_nar, J0_nar, if_true, if_false, rd_wr_same, rd_wr_ne, true_and, and_true, B_0, B_1, not_true_eq_false, not_false_eq_true, rdD0, r, c3, f1]
