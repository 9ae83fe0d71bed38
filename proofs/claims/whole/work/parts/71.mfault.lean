theorem rst_0 {M : Lay} : rset M 0 (f7 (M 0 0) 0 0 (M 0 3) (M 0 4) (M 0 5) (M 0 6)) = rst M 0 0 (M 2) (M 3) (M 4) := by
  funext a
  unfold rset rst
  by_cases h0 : a = 0
  · rw [if_pos h0, if_pos h0]
  · rw [if_neg h0, if_neg h0]
    by_cases h2 : a = 2
    · rw [if_pos h2, h2]
    · rw [if_neg h2]
      by_cases h3 : a = 3
      · rw [if_pos h3, h3]
      · rw [if_neg h3]
        by_cases h4 : a = 4
        · rw [if_pos h4, h4]
        · rw [if_neg h4]
def zF : Int → Int := fun _ => 0
theorem zF_e {k : Int} : zF k = 0 := rfl
theorem l136a {nat : gNat} {d : Nat} {w : gWd} {x : Nat} {M : Lay} (hx : x + 12 < gSTR) {p b : Int} {N L P : Int → Int} : ∀ (k n : Nat), n + k = 65 → gX (gC nat d) nat 136 12 [some (.ref x), some (.int (J n))] [] [] (putM w x (rst M p b N (cpR zF L 0 n) P)) = gX (gC nat d) nat 136 31 [some (.ref x), some (.int (J 65))] [] [] (putM w x (rst M p b N (cpR zF L 0 65) P)) := by
  intro k
  induction k with
  | zero =>
    intro n hn
    rw [Nat.add_zero] at hn
    subst hn
    rw [e136_12]
    simp (disch := first | omega | exact Nat.le_of_ble_eq_true rfl) only [e136_0, e136_1, e136_2, e136_5, e136_6, e136_7z0, e136_7z1, e136_10, e136_11, e136_13, e136_15, e136_18, e136_19, e136_22, e136_23, e136_24, e136_25, e136_28, e136_32, e136_34, e136_36, e136_39, e136_40, e136_43, e136_44, e136_45, e136_46, e136_49, e136_52, e136_53, e136_56, e136_57, e136_58, e136_59, e136_60, e136_63, e136_64, e136_66, e136_68, e136_71, e136_72, e136_75, e136_78, e136_79, e136_82, e136_83, e136_84, e136_87, e136_90, e136_91, e136_92, e136_95, e136_97, J_add, J_sub, J_mul, J_neg, J_lt, J_le, J_eq, gArr_J, gAst_J, gSiz_J, gFld_o, gUpd_o0, gUpd_o1, gUpd_o2, gUpd_o3, gUpd_o4, gUpd_o5, gUpd_o6, gUpd_o7, gUpd_o8, gUpd_o9, gUpd_o10, gUpd_o11, gUpd_o12, gUpd_o13, gUpd_o14, gUpd_o15, gUpd_o16, gUpd_o17, gUpd_o18, gIsO_o, Option.bind_some, List.getElem?_cons_zero, List.getElem?_cons_succ, List.length_cons, List.length_nil, List.set_cons_zero, List.set_cons_succ, gCat_nil, gCat_int, gCat_ref, if_pos, if_neg, Option.toList_some, Option.toList_none, List.cons_append, List.nil_append, B_nar, J1_nar, J0_nar, if_true, if_false, rd_wr_same, rd_wr_ne, true_and, and_true, B_0, B_1, not_true_eq_false, not_false_eq_true, rdM0, rdM1, rdM2, rdM3, rdM4, rdM5, rdM6, rdM7, rdM8, rdM9, rdM10, rdM11, rdM12, rset_at, rset_ne, rset_rset, w0M, wZ1, wZ2, wZ3, wZ4, wZ5, wZ6, wZ7, wZ8, wZ9, wZ10, wZ11, wZ12, f7_0, f7_1, f7_2, f7_3, f7_4, f7_5, f7_6, rst00, rst01, rst02, rst03, rst04, rst05, rst06, rst_1, rst_2, rst_3, rst_4, rst_w0, rst_w2, rst_w3, rst_w4]
    rfl
  | succ k ih =>
    intro n hn
    have this := ih (n + 1) (by omega)
    rw [← cpR_s, show ((n + 1 : Nat) : Int) = (n : Int) + 1 from rfl, Int.zero_add, zF_e] at this
    rw [e136_12]
    simp (disch := first | omega | exact Nat.le_of_ble_eq_true rfl) only [e136_0, e136_1, e136_2, e136_5, e136_6, e136_7z0, e136_7z1, e136_10, e136_11, e136_13, e136_15, e136_18, e136_19, e136_22, e136_23, e136_24, e136_25, e136_28, e136_32, e136_34, e136_36, e136_39, e136_40, e136_43, e136_44, e136_45, e136_46, e136_49, e136_52, e136_53, e136_56, e136_57, e136_58, e136_59, e136_60, e136_63, e136_64, e136_66, e136_68, e136_71, e136_72, e136_75, e136_78, e136_79, e136_82, e136_83, e136_84, e136_87, e136_90, e136_91, e136_92, e136_95, e136_97, J_add, J_sub, J_mul, J_neg, J_lt, J_le, J_eq, gArr_J, gAst_J, gSiz_J, gFld_o, gUpd_o0, gUpd_o1, gUpd_o2, gUpd_o3, gUpd_o4, gUpd_o5, gUpd_o6, gUpd_o7, gUpd_o8, gUpd_o9, gUpd_o10, gUpd_o11, gUpd_o12, gUpd_o13, gUpd_o14, gUpd_o15, gUpd_o16, gUpd_o17, gUpd_o18, gIsO_o, Option.bind_some, List.getElem?_cons_zero, List.getElem?_cons_succ, List.length_cons, List.length_nil, List.set_cons_zero, List.set_cons_succ, gCat_nil, gCat_int, gCat_ref, if_pos, if_neg, Option.toList_some, Option.toList_none, List.cons_append, List.nil_append, B_nar, J1_nar, J0_nar, if_true, if_false, rd_wr_same, rd_wr_ne, true_and, and_true, B_0, B_1, not_true_eq_false, not_false_eq_true, rdM0, rdM1, rdM2, rdM3, rdM4, rdM5, rdM6, rdM7, rdM8, rdM9, rdM10, rdM11, rdM12, rset_at, rset_ne, rset_rset, w0M, wZ1, wZ2, wZ3, wZ4, wZ5, wZ6, wZ7, wZ8, wZ9, wZ10, wZ11, wZ12, f7_0, f7_1, f7_2, f7_3, f7_4, f7_5, f7_6, rst00, rst01, rst02, rst03, rst04, rst05, rst06, rst_1, rst_2, rst_3, rst_4, rst_w0, rst_w2, rst_w3, rst_w4, this]

theorem l136b {nat : gNat} {d : Nat} {w : gWd} {x : Nat} {M : Lay} (hx : x + 12 < gSTR) {p b : Int} {N L P : Int → Int} : ∀ (k n : Nat), n + k = 17 → gX (gC nat d) nat 136 33 [some (.ref x), some (.int (J n))] [] [] (putM w x (rst M p b N L (cpR zF P 0 n))) = gX (gC nat d) nat 136 52 [some (.ref x), some (.int (J 17))] [] [] (putM w x (rst M p b N L (cpR zF P 0 17))) := by
  intro k
  induction k with
  | zero =>
    intro n hn
    rw [Nat.add_zero] at hn
    subst hn
    rw [e136_33]
    simp (disch := first | omega | exact Nat.le_of_ble_eq_true rfl) only [e136_0, e136_1, e136_2, e136_5, e136_6, e136_7z0, e136_7z1, e136_10, e136_11, e136_13, e136_15, e136_18, e136_19, e136_22, e136_23, e136_24, e136_25, e136_28, e136_31, e136_32, e136_34, e136_36, e136_39, e136_40, e136_43, e136_44, e136_45, e136_46, e136_49, e136_53, e136_56, e136_57, e136_58, e136_59, e136_60, e136_63, e136_64, e136_66, e136_68, e136_71, e136_72, e136_75, e136_78, e136_79, e136_82, e136_83, e136_84, e136_87, e136_90, e136_91, e136_92, e136_95, e136_97, J_add, J_sub, J_mul, J_neg, J_lt, J_le, J_eq, gArr_J, gAst_J, gSiz_J, gFld_o, gUpd_o0, gUpd_o1, gUpd_o2, gUpd_o3, gUpd_o4, gUpd_o5, gUpd_o6, gUpd_o7, gUpd_o8, gUpd_o9, gUpd_o10, gUpd_o11, gUpd_o12, gUpd_o13, gUpd_o14, gUpd_o15, gUpd_o16, gUpd_o17, gUpd_o18, gIsO_o, Option.bind_some, List.getElem?_cons_zero, List.getElem?_cons_succ, List.length_cons, List.length_nil, List.set_cons_zero, List.set_cons_succ, gCat_nil, gCat_int, gCat_ref, if_pos, if_neg, Option.toList_some, Option.toList_none, List.cons_append, List.nil_append, B_nar, J1_nar, J0_nar, if_true, if_false, rd_wr_same, rd_wr_ne, true_and, and_true, B_0, B_1, not_true_eq_false, not_false_eq_true, rdM0, rdM1, rdM2, rdM3, rdM4, rdM5, rdM6, rdM7, rdM8, rdM9, rdM10, rdM11, rdM12, rset_at, rset_ne, rset_rset, w0M, wZ1, wZ2, wZ3, wZ4, wZ5, wZ6, wZ7, wZ8, wZ9, wZ10, wZ11, wZ12, f7_0, f7_1, f7_2, f7_3, f7_4, f7_5, f7_6, rst00, rst01, rst02, rst03, rst04, rst05, rst06, rst_1, rst_2, rst_3, rst_4, rst_w0, rst_w2, rst_w3, rst_w4]
    rfl
  | succ k ih =>
    intro n hn
    have this := ih (n + 1) (by omega)
    rw [← cpR_s, show ((n + 1 : Nat) : Int) = (n : Int) + 1 from rfl, Int.zero_add, zF_e] at this
    rw [e136_33]
    simp (disch := first | omega | exact Nat.le_of_ble_eq_true rfl) only [e136_0, e136_1, e136_2, e136_5, e136_6, e136_7z0, e136_7z1, e136_10, e136_11, e136_13, e136_15, e136_18, e136_19, e136_22, e136_23, e136_24, e136_25, e136_28, e136_31, e136_32, e136_34, e136_36, e136_39, e136_40, e136_43, e136_44, e136_45, e136_46, e136_49, e136_53, e136_56, e136_57, e136_58, e136_59, e136_60, e136_63, e136_64, e136_66, e136_68, e136_71, e136_72, e136_75, e136_78, e136_79, e136_82, e136_83, e136_84, e136_87, e136_90, e136_91, e136_92, e136_95, e136_97, J_add, J_sub, J_mul, J_neg, J_lt, J_le, J_eq, gArr_J, gAst_J, gSiz_J, gFld_o, gUpd_o0, gUpd_o1, gUpd_o2, gUpd_o3, gUpd_o4, gUpd_o5, gUpd_o6, gUpd_o7, gUpd_o8, gUpd_o9, gUpd_o10, gUpd_o11, gUpd_o12, gUpd_o13, gUpd_o14, gUpd_o15, gUpd_o16, gUpd_o17, gUpd_o18, gIsO_o, Option.bind_some, List.getElem?_cons_zero, List.getElem?_cons_succ, List.length_cons, List.length_nil, List.set_cons_zero, List.set_cons_succ, gCat_nil, gCat_int, gCat_ref, if_pos, if_neg, Option.toList_some, Option.toList_none, List.cons_append, List.nil_append, B_nar, J1_nar, J0_nar, if_true, if_false, rd_wr_same, rd_wr_ne, true_and, and_true, B_0, B_1, not_true_eq_false, not_false_eq_true, rdM0, rdM1, rdM2, rdM3, rdM4, rdM5, rdM6, rdM7, rdM8, rdM9, rdM10, rdM11, rdM12, rset_at, rset_ne, rset_rset, w0M, wZ1, wZ2, wZ3, wZ4, wZ5, wZ6, wZ7, wZ8, wZ9, wZ10, wZ11, wZ12, f7_0, f7_1, f7_2, f7_3, f7_4, f7_5, f7_6, rst00, rst01, rst02, rst03, rst04, rst05, rst06, rst_1, rst_2, rst_3, rst_4, rst_w0, rst_w2, rst_w3, rst_w4, this]

theorem l136c {nat : gNat} {d : Nat} {w : gWd} {x : Nat} {M : Lay} (hx : x + 12 < gSTR) (h0 : 0 ≤ M 0 0 ∧ M 0 0 ≤ 200) {t : Int → Int} (ht : ∀ i, 0 ≤ i → ltr (M 1) (M 0 0) i = t i) (htb : ∀ i, 0 ≤ i → 0 ≤ t i ∧ t i < 128) : ∀ (k : Nat) (p b : Int) (N L P : Int → Int) (K : Lay) (z : Option Value), M 0 0 ≤ p + k → 0 ≤ p → p ≤ 200 → (b = 0 ∨ b = 1) → vK K → (1 - b = 1 → K 0 1 = 0) → mLaw K L → mNow K P → ∃ p' b' N' L' P', gX (gC nat (d + 5)) nat 136 67 [some (.ref x), z] [] [] (putM w x (rst M p b N L P)) = some (some (.int (J (rdl t (M 0 0) k p (1 - b) K).1)), putM w x (rst M p' b' N' L' P')) ∧ ((rdl t (M 0 0) k p (1 - b) K).1 = -4 → mLaw (rdl t (M 0 0) k p (1 - b) K).2 L' ∧ mNow (rdl t (M 0 0) k p (1 - b) K).2 P') := by
  have hz : ∀ i, 0 ≤ i → M 0 0 ≤ i → t i = 0 := fun i i0 hi => by
    rw [← ht i i0, ltr_ge hi]
  intro k
  induction k with
  | zero =>
    intro p b N L P K z hk hp hp2 hb hK hon hL hP
    refine ⟨p, b, N, L, P, ?_, fun _ => by rw [rdl]; exact ⟨hL, hP⟩⟩
    rw [rdl, e136_67]
    simp (disch := first | omega | exact Nat.le_of_ble_eq_true rfl) only [e136_0, e136_1, e136_2, e136_5, e136_6, e136_7z0, e136_7z1, e136_10, e136_11, e136_13, e136_15, e136_18, e136_19, e136_22, e136_23, e136_24, e136_25, e136_28, e136_31, e136_32, e136_34, e136_36, e136_39, e136_40, e136_43, e136_44, e136_45, e136_46, e136_49, e136_52, e136_53, e136_56, e136_57, e136_58, e136_59, e136_60, e136_63, e136_64, e136_66, e136_68, e136_71, e136_72, e136_75, e136_78, e136_79, e136_82, e136_83, e136_84, e136_87, e136_90, e136_91, e136_92, e136_95, e136_97, J_add, J_sub, J_mul, J_neg, J_lt, J_le, J_eq, gArr_J, gAst_J, gSiz_J, gFld_o, gUpd_o0, gUpd_o1, gUpd_o2, gUpd_o3, gUpd_o4, gUpd_o5, gUpd_o6, gUpd_o7, gUpd_o8, gUpd_o9, gUpd_o10, gUpd_o11, gUpd_o12, gUpd_o13, gUpd_o14, gUpd_o15, gUpd_o16, gUpd_o17, gUpd_o18, gIsO_o, Option.bind_some, List.getElem?_cons_zero, List.getElem?_cons_succ, List.length_cons, List.length_nil, List.set_cons_zero, List.set_cons_succ, gCat_nil, gCat_int, gCat_ref, if_pos, if_neg, Option.toList_some, Option.toList_none, List.cons_append, List.nil_append, B_nar, J1_nar, J0_nar, if_true, if_false, rd_wr_same, rd_wr_ne, true_and, and_true, B_0, B_1, not_true_eq_false, not_false_eq_true, rdM0, rdM1, rdM2, rdM3, rdM4, rdM5, rdM6, rdM7, rdM8, rdM9, rdM10, rdM11, rdM12, rset_at, rset_ne, rset_rset, w0M, wZ1, wZ2, wZ3, wZ4, wZ5, wZ6, wZ7, wZ8, wZ9, wZ10, wZ11, wZ12, f7_0, f7_1, f7_2, f7_3, f7_4, f7_5, f7_6, rst00, rst01, rst02, rst03, rst04, rst05, rst06, rst_1, rst_2, rst_3, rst_4, rst_w0, rst_w2, rst_w3, rst_w4]
  | succ k ih =>
    intro p b N L P K z hk hp hp2 hb hK hon hL hP
    rw [rdl]
    by_cases hpL : p < M 0 0
    · rw [if_pos hpL]
      have hi := i135 (nat := nat) (d := d) (w := w) hx h0 ht htb hK (b := b) (p := p) (N := N) (L := L) (P := P) hb ⟨hp, hp2⟩ hL hP
      have bad : (∀ a q R K', nums t 5 0 (p + 1) (fun _ => 0) = some (a, q, R) → tki (t p) a R K (1 - b) ≠ some K') → ∃ p' b' N' L' P', gX (gC nat (d + 5)) nat 136 67 [some (.ref x), z] [] [] (putM w x (rst M p b N L P)) = some (some (.int (J p)), putM w x (rst M p' b' N' L' P')) ∧ (p = -4 → mLaw K L' ∧ mNow K P') := by
        intro h
        obtain ⟨p', b', N', L', P', g1⟩ := hi.2 h
        refine ⟨p', b', N', L', P', ?_, fun h => by omega⟩
        rw [e136_67]
        simp (disch := first | omega | exact Nat.le_of_ble_eq_true rfl) only [e136_0, e136_1, e136_2, e136_5, e136_6, e136_7z0, e136_7z1, e136_10, e136_11, e136_13, e136_15, e136_18, e136_19, e136_22, e136_23, e136_24, e136_25, e136_28, e136_31, e136_32, e136_34, e136_36, e136_39, e136_40, e136_43, e136_44, e136_45, e136_46, e136_49, e136_52, e136_53, e136_56, e136_57, e136_58, e136_59, e136_60, e136_63, e136_64, e136_66, e136_68, e136_71, e136_72, e136_75, e136_78, e136_79, e136_82, e136_83, e136_84, e136_87, e136_90, e136_91, e136_92, e136_95, e136_97, J_add, J_sub, J_mul, J_neg, J_lt, J_le, J_eq, gArr_J, gAst_J, gSiz_J, gFld_o, gUpd_o0, gUpd_o1, gUpd_o2, gUpd_o3, gUpd_o4, gUpd_o5, gUpd_o6, gUpd_o7, gUpd_o8, gUpd_o9, gUpd_o10, gUpd_o11, gUpd_o12, gUpd_o13, gUpd_o14, gUpd_o15, gUpd_o16, gUpd_o17, gUpd_o18, gIsO_o, Option.bind_some, List.getElem?_cons_zero, List.getElem?_cons_succ, List.length_cons, List.length_nil, List.set_cons_zero, List.set_cons_succ, gCat_nil, gCat_int, gCat_ref, if_pos, if_neg, Option.toList_some, Option.toList_none, List.cons_append, List.nil_append, B_nar, J1_nar, J0_nar, if_true, if_false, rd_wr_same, rd_wr_ne, true_and, and_true, B_0, B_1, not_true_eq_false, not_false_eq_true, rdM0, rdM1, rdM2, rdM3, rdM4, rdM5, rdM6, rdM7, rdM8, rdM9, rdM10, rdM11, rdM12, rset_at, rset_ne, rset_rset, w0M, wZ1, wZ2, wZ3, wZ4, wZ5, wZ6, wZ7, wZ8, wZ9, wZ10, wZ11, wZ12, f7_0, f7_1, f7_2, f7_3, f7_4, f7_5, f7_6, rst00, rst01, rst02, rst03, rst04, rst05, rst06, rst_1, rst_2, rst_3, rst_4, rst_w0, rst_w2, rst_w3, rst_w4, g1]
      rcases hn : nums t 5 0 (p + 1) (fun _ => 0) with _ | ⟨a, q, R⟩
      · dsimp only
        exact bad (fun a q R K' h => by rw [hn] at h; exact absurd h (by simp))
      · dsimp only
        rcases hk2 : tki (t p) a R K (1 - b) with _ | K'
        · dsimp only
          exact bad (fun a' q' R' K' h h2 => by
            rw [hn] at h
            have e1 := Prod.mk.inj (Option.some.inj h)
            have e2 := Prod.mk.inj e1.2
            rw [← e1.1, ← e2.2, hk2] at h2
            exact absurd h2 (by simp))
        · dsimp only
          obtain ⟨N', L', P', g1, g2, g3⟩ := hi.1 a q R K' hn hk2
          obtain ⟨n1, n2, n3, n4, n5, n6⟩ := nums_in _ _ _ _ _ _ _ _ hn
          have hv := tki_v hK hon (by omega) hk2
          have hq : q ≤ M 0 0 := by
            rcases Int.lt_or_le (q - 1) (M 0 0) with h | h
            · omega
            · have := hz (q - 1) (by omega) h
              omega
          have eb : (if t p = 112 then 1 - b else 0) = 1 - (if t p = 112 then b else 1) := by split <;> omega
          rw [eb] at hv ⊢
          obtain ⟨p', b', N2, L2, P2, g4, g5⟩ := ih q (if t p = 112 then b else 1) N' L' P' K' (some (.int (J p))) (by omega) (by omega) (by omega) (by split <;> omega) hv.1 hv.2 g2 g3
          refine ⟨p', b', N2, L2, P2, ?_, g5⟩
          rw [← g4, e136_67]
          simp (disch := first | omega | exact Nat.le_of_ble_eq_true rfl) only [e136_0, e136_1, e136_2, e136_5, e136_6, e136_7z0, e136_7z1, e136_10, e136_11, e136_13, e136_15, e136_18, e136_19, e136_22, e136_23, e136_24, e136_25, e136_28, e136_31, e136_32, e136_34, e136_36, e136_39, e136_40, e136_43, e136_44, e136_45, e136_46, e136_49, e136_52, e136_53, e136_56, e136_57, e136_58, e136_59, e136_60, e136_63, e136_64, e136_66, e136_68, e136_71, e136_72, e136_75, e136_78, e136_79, e136_82, e136_83, e136_84, e136_87, e136_90, e136_91, e136_92, e136_95, e136_97, J_add, J_sub, J_mul, J_neg, J_lt, J_le, J_eq, gArr_J, gAst_J, gSiz_J, gFld_o, gUpd_o0, gUpd_o1, gUpd_o2, gUpd_o3, gUpd_o4, gUpd_o5, gUpd_o6, gUpd_o7, gUpd_o8, gUpd_o9, gUpd_o10, gUpd_o11, gUpd_o12, gUpd_o13, gUpd_o14, gUpd_o15, gUpd_o16, gUpd_o17, gUpd_o18, gIsO_o, Option.bind_some, List.getElem?_cons_zero, List.getElem?_cons_succ, List.length_cons, List.length_nil, List.set_cons_zero, List.set_cons_succ, gCat_nil, gCat_int, gCat_ref, if_pos, if_neg, Option.toList_some, Option.toList_none, List.cons_append, List.nil_append, B_nar, J1_nar, J0_nar, if_true, if_false, rd_wr_same, rd_wr_ne, true_and, and_true, B_0, B_1, not_true_eq_false, not_false_eq_true, rdM0, rdM1, rdM2, rdM3, rdM4, rdM5, rdM6, rdM7, rdM8, rdM9, rdM10, rdM11, rdM12, rset_at, rset_ne, rset_rset, w0M, wZ1, wZ2, wZ3, wZ4, wZ5, wZ6, wZ7, wZ8, wZ9, wZ10, wZ11, wZ12, f7_0, f7_1, f7_2, f7_3, f7_4, f7_5, f7_6, rst00, rst01, rst02, rst03, rst04, rst05, rst06, rst_1, rst_2, rst_3, rst_4, rst_w0, rst_w2, rst_w3, rst_w4, g1]
    · rw [if_neg hpL]
      refine ⟨p, b, N, L, P, ?_, fun _ => ⟨hL, hP⟩⟩
      rw [e136_67]
      simp (disch := first | omega | exact Nat.le_of_ble_eq_true rfl) only [e136_0, e136_1, e136_2, e136_5, e136_6, e136_7z0, e136_7z1, e136_10, e136_11, e136_13, e136_15, e136_18, e136_19, e136_22, e136_23, e136_24, e136_25, e136_28, e136_31, e136_32, e136_34, e136_36, e136_39, e136_40, e136_43, e136_44, e136_45, e136_46, e136_49, e136_52, e136_53, e136_56, e136_57, e136_58, e136_59, e136_60, e136_63, e136_64, e136_66, e136_68, e136_71, e136_72, e136_75, e136_78, e136_79, e136_82, e136_83, e136_84, e136_87, e136_90, e136_91, e136_92, e136_95, e136_97, J_add, J_sub, J_mul, J_neg, J_lt, J_le, J_eq, gArr_J, gAst_J, gSiz_J, gFld_o, gUpd_o0, gUpd_o1, gUpd_o2, gUpd_o3, gUpd_o4, gUpd_o5, gUpd_o6, gUpd_o7, gUpd_o8, gUpd_o9, gUpd_o10, gUpd_o11, gUpd_o12, gUpd_o13, gUpd_o14, gUpd_o15, gUpd_o16, gUpd_o17, gUpd_o18, gIsO_o, Option.bind_some, List.getElem?_cons_zero, List.getElem?_cons_succ, List.length_cons, List.length_nil, List.set_cons_zero, List.set_cons_succ, gCat_nil, gCat_int, gCat_ref, if_pos, if_neg, Option.toList_some, Option.toList_none, List.cons_append, List.nil_append, B_nar, J1_nar, J0_nar, if_true, if_false, rd_wr_same, rd_wr_ne, true_and, and_true, B_0, B_1, not_true_eq_false, not_false_eq_true, rdM0, rdM1, rdM2, rdM3, rdM4, rdM5, rdM6, rdM7, rdM8, rdM9, rdM10, rdM11, rdM12, rset_at, rset_ne, rset_rset, w0M, wZ1, wZ2, wZ3, wZ4, wZ5, wZ6, wZ7, wZ8, wZ9, wZ10, wZ11, wZ12, f7_0, f7_1, f7_2, f7_3, f7_4, f7_5, f7_6, rst00, rst01, rst02, rst03, rst04, rst05, rst06, rst_1, rst_2, rst_3, rst_4, rst_w0, rst_w2, rst_w3, rst_w4]

theorem s136 {nat : gNat} {d : Nat} {w : gWd} {x : Nat} {M : Lay} (hx : x + 12 < gSTR) (h0 : 0 ≤ M 0 0 ∧ M 0 0 ≤ 200) {t : Int → Int} (ht : ∀ i, 0 ≤ i → ltr (M 1) (M 0 0) i = t i) (htb : ∀ i, 0 ≤ i → 0 ≤ t i ∧ t i < 128) (Q : Lay) : ∃ p' b' N' L' P', gC nat (d + 6) 136 [.ref x] (putM w x M) = some (some (.int (J (rdl t (M 0 0) (M 0 0).toNat 0 1 (clrK Q)).1)), putM w x (rst M p' b' N' L' P')) ∧ ((rdl t (M 0 0) (M 0 0).toNat 0 1 (clrK Q)).1 = -4 → mLaw (rdl t (M 0 0) (M 0 0).toNat 0 1 (clrK Q)).2 L' ∧ mNow (rdl t (M 0 0) (M 0 0).toNat 0 1 (clrK Q)).2 P') := by
  have ha := l136a (nat := nat) (d := d + 5) (w := w) (M := M) hx (p := 0) (b := 0) (N := M 2) (L := M 3) (P := M 4) 65 0 (by omega)
  have hb := l136b (nat := nat) (d := d + 5) (w := w) (M := M) hx (p := 0) (b := 0) (N := M 2) (L := cpR zF (M 3) 0 65) (P := M 4) 17 0 (by omega)
  rw [cpR_z, show ((0 : Nat) : Int) = 0 from rfl] at ha hb
  have e0 : (clrK Q) 0 0 = 4 := by simp [clrK, sset]
  have e1 : (clrK Q) 0 1 = 0 := by simp [clrK, sset]
  have e2 : (clrK Q) 0 2 = 0 := by simp [clrK, sset]
  have e3 : (clrK Q) 0 3 = 12 := by simp [clrK, sset]
  have e4 : (clrK Q) 0 4 = 0 := by simp [clrK, sset]
  have cz : ∀ k : Int, 0 ≤ k → k < 65 → cpR zF (M 3) 0 65 k = 0 := fun k k1 k2 => by rw [cpR_at _ _ _ _ (by omega)]; rfl
  have cp : ∀ k : Int, 0 ≤ k → k < 17 → cpR zF (M 4) 0 17 k = 0 := fun k k1 k2 => by rw [cpR_at _ _ _ _ (by omega)]; rfl
  have hL : mLaw (clrK Q) (fset (fset (cpR zF (M 3) 0 65) 0 4) 3 12) := by
    refine ⟨?_, ?_, ?_, ?_, ?_, fun r z1 z2 => by omega, fun g i z1 z2 z3 z4 => by omega, fun y z1 z2 => by omega⟩
    · rw [e0, fset_ne (by decide), fset_at]
    · rw [e1, fset_ne (by decide), fset_ne (by decide), cz _ (by decide) (by decide)]
    · rw [e2, fset_ne (by decide), fset_ne (by decide), cz _ (by decide) (by decide)]
    · rw [e3, fset_at]
    · rw [e4, fset_ne (by decide), fset_ne (by decide), cz _ (by decide) (by decide)]
  have hP : mNow (clrK Q) (cpR zF (M 4) 0 17) := ⟨cp 0 (by decide) (by decide), fun g g1 g2 => cp _ (by omega) (by omega), fun y z1 z2 => by omega⟩
  obtain ⟨p', b', N', L', P', g1, g2⟩ := l136c (nat := nat) (d := d) (w := w) (M := M) hx h0 ht htb (M 0 0).toNat 0 0 (M 2) _ _ (clrK Q) (some (.int (J 17))) (by omega) (by omega) (by omega) (Or.inl rfl) (vK_clr Q) (fun _ => e1) hL hP
  rw [show (1 : Int) - 0 = 1 from rfl] at g1 g2
  refine ⟨p', b', N', L', P', ?_, g2⟩
  rw [← g1, en136]
  simp (disch := first | omega | exact Nat.le_of_ble_eq_true rfl) only [e136_0, e136_1, e136_2, e136_5, e136_6, e136_7z0, e136_7z1, e136_10, e136_11, e136_13, e136_15, e136_18, e136_19, e136_22, e136_23, e136_24, e136_25, e136_28, e136_32, e136_34, e136_36, e136_39, e136_40, e136_43, e136_44, e136_45, e136_46, e136_49, e136_53, e136_56, e136_57, e136_58, e136_59, e136_60, e136_63, e136_64, e136_66, e136_68, e136_71, e136_72, e136_75, e136_78, e136_79, e136_82, e136_83, e136_84, e136_87, e136_90, e136_91, e136_92, e136_95, e136_97, J_add, J_sub, J_mul, J_neg, J_lt, J_le, J_eq, gArr_J, gAst_J, gSiz_J, gFld_o, gUpd_o0, gUpd_o1, gUpd_o2, gUpd_o3, gUpd_o4, gUpd_o5, gUpd_o6, gUpd_o7, gUpd_o8, gUpd_o9, gUpd_o10, gUpd_o11, gUpd_o12, gUpd_o13, gUpd_o14, gUpd_o15, gUpd_o16, gUpd_o17, gUpd_o18, gIsO_o, Option.bind_some, List.getElem?_cons_zero, List.getElem?_cons_succ, List.length_cons, List.length_nil, List.set_cons_zero, List.set_cons_succ, gCat_nil, gCat_int, gCat_ref, if_pos, if_neg, Option.toList_some, Option.toList_none, List.cons_append, List.nil_append, B_nar, J1_nar, J0_nar, if_true, if_false, rd_wr_same, rd_wr_ne, true_and, and_true, B_0, B_1, not_true_eq_false, not_false_eq_true, rdM0, rdM1, rdM2, rdM3, rdM4, rdM5, rdM6, rdM7, rdM8, rdM9, rdM10, rdM11, rdM12, rset_at, rset_ne, rset_rset, w0M, wZ1, wZ2, wZ3, wZ4, wZ5, wZ6, wZ7, wZ8, wZ9, wZ10, wZ11, wZ12, f7_0, f7_1, f7_2, f7_3, f7_4, f7_5, f7_6, rst00, rst01, rst02, rst03, rst04, rst05, rst06, rst_1, rst_2, rst_3, rst_4, rst_w0, rst_w2, rst_w3, rst_w4, rst_0, ha]
  rw [e136_31]
  simp (disch := first | omega | exact Nat.le_of_ble_eq_true rfl) only [e136_0, e136_1, e136_2, e136_5, e136_6, e136_7z0, e136_7z1, e136_10, e136_11, e136_13, e136_15, e136_18, e136_19, e136_22, e136_23, e136_24, e136_25, e136_28, e136_31, e136_32, e136_34, e136_36, e136_39, e136_40, e136_43, e136_44, e136_45, e136_46, e136_49, e136_53, e136_56, e136_57, e136_58, e136_59, e136_60, e136_63, e136_64, e136_66, e136_68, e136_71, e136_72, e136_75, e136_78, e136_79, e136_82, e136_83, e136_84, e136_87, e136_90, e136_91, e136_92, e136_95, e136_97, J_add, J_sub, J_mul, J_neg, J_lt, J_le, J_eq, gArr_J, gAst_J, gSiz_J, gFld_o, gUpd_o0, gUpd_o1, gUpd_o2, gUpd_o3, gUpd_o4, gUpd_o5, gUpd_o6, gUpd_o7, gUpd_o8, gUpd_o9, gUpd_o10, gUpd_o11, gUpd_o12, gUpd_o13, gUpd_o14, gUpd_o15, gUpd_o16, gUpd_o17, gUpd_o18, gIsO_o, Option.bind_some, List.getElem?_cons_zero, List.getElem?_cons_succ, List.length_cons, List.length_nil, List.set_cons_zero, List.set_cons_succ, gCat_nil, gCat_int, gCat_ref, if_pos, if_neg, Option.toList_some, Option.toList_none, List.cons_append, List.nil_append, B_nar, J1_nar, J0_nar, if_true, if_false, rd_wr_same, rd_wr_ne, true_and, and_true, B_0, B_1, not_true_eq_false, not_false_eq_true, rdM0, rdM1, rdM2, rdM3, rdM4, rdM5, rdM6, rdM7, rdM8, rdM9, rdM10, rdM11, rdM12, rset_at, rset_ne, rset_rset, w0M, wZ1, wZ2, wZ3, wZ4, wZ5, wZ6, wZ7, wZ8, wZ9, wZ10, wZ11, wZ12, f7_0, f7_1, f7_2, f7_3, f7_4, f7_5, f7_6, rst00, rst01, rst02, rst03, rst04, rst05, rst06, rst_1, rst_2, rst_3, rst_4, rst_w0, rst_w2, rst_w3, rst_w4, hb]
  rw [e136_52]
  simp (disch := first | omega | exact Nat.le_of_ble_eq_true rfl) only [e136_0, e136_1, e136_2, e136_5, e136_6, e136_7z0, e136_7z1, e136_10, e136_11, e136_13, e136_15, e136_18, e136_19, e136_22, e136_23, e136_24, e136_25, e136_28, e136_31, e136_32, e136_34, e136_36, e136_39, e136_40, e136_43, e136_44, e136_45, e136_46, e136_49, e136_52, e136_53, e136_56, e136_57, e136_58, e136_59, e136_60, e136_63, e136_64, e136_66, e136_68, e136_71, e136_72, e136_75, e136_78, e136_79, e136_82, e136_83, e136_84, e136_87, e136_90, e136_91, e136_92, e136_95, e136_97, J_add, J_sub, J_mul, J_neg, J_lt, J_le, J_eq, gArr_J, gAst_J, gSiz_J, gFld_o, gUpd_o0, gUpd_o1, gUpd_o2, gUpd_o3, gUpd_o4, gUpd_o5, gUpd_o6, gUpd_o7, gUpd_o8, gUpd_o9, gUpd_o10, gUpd_o11, gUpd_o12, gUpd_o13, gUpd_o14, gUpd_o15, gUpd_o16, gUpd_o17, gUpd_o18, gIsO_o, Option.bind_some, List.getElem?_cons_zero, List.getElem?_cons_succ, List.length_cons, List.length_nil, List.set_cons_zero, List.set_cons_succ, gCat_nil, gCat_int, gCat_ref, if_pos, if_neg, Option.toList_some, Option.toList_none, List.cons_append, List.nil_append, B_nar, J1_nar, J0_nar, if_true, if_false, rd_wr_same, rd_wr_ne, true_and, and_true, B_0, B_1, not_true_eq_false, not_false_eq_true, rdM0, rdM1, rdM2, rdM3, rdM4, rdM5, rdM6, rdM7, rdM8, rdM9, rdM10, rdM11, rdM12, rset_at, rset_ne, rset_rset, w0M, wZ1, wZ2, wZ3, wZ4, wZ5, wZ6, wZ7, wZ8, wZ9, wZ10, wZ11, wZ12, f7_0, f7_1, f7_2, f7_3, f7_4, f7_5, f7_6, rst00, rst01, rst02, rst03, rst04, rst05, rst06, rst_1, rst_2, rst_3, rst_4, rst_w0, rst_w2, rst_w3, rst_w4]

theorem stI_rst {t : Int} {X K S : Lay} {PT KT : Nat → Lay} {M : Lay} (hI : stI t X K S PT KT M) {p b : Int} {N L P : Int → Int} : stI t X K S PT KT (rst M p b N L P) := hI

theorem z136 {nat : gNat} {d : Nat} {w : gWd} {x : Nat} {t : Int} {X K S : Lay} {PT KT : Nat → Lay} {M : Lay} (hx : x + 12 < gSTR) (hI : stI t X K S PT KT M) (ht : t ≤ 1000) (Q : Lay) : ∃ M', gC nat (d + 7) 136 [.ref x] (putM w x M) = some (some (.int (J ((rdX X Q).1))), putM w x M') ∧ stI t X K S PT KT M' := by
  obtain ⟨iR, hK, ⟨k1p, k2p⟩, ⟨hS, hH⟩, iP, iKp, iE, iT, hL, hR, ⟨m0, m3, m4, m5, m6⟩⟩ := id hI
  obtain ⟨r0, r1, r2, r3, r4, r5⟩ := id iR
  have ht' : ∀ i, 0 ≤ i → ltr (M 1) (M 0 0) i = txt X i := fun i i0 => by
    unfold txt ltr
    rw [m0]
    split
    · exact iT i i0 (by omega)
    · rfl
  have htb : ∀ i, 0 ≤ i → 0 ≤ txt X i ∧ txt X i < 128 := fun i i0 => by
    unfold txt ltr
    split
    · exact r1 i i0 (by omega)
    · omega
  obtain ⟨p', b', N', L', P', g1, g2⟩ := s136 (nat := nat) (d := d + 1) (w := w) (M := M) hx (by omega) ht' htb Q
  rw [m0] at g1
  exact ⟨_, g1, stI_rst hI⟩

def fM4 : Int → Int := fun _ => -4
theorem fM4_e {k : Int} : fM4 k = -4 := rfl
theorem l137a {nat : gNat} {d : Nat} {w : gWd} {x : Nat} {M : Lay} (hx : x + 12 < gSTR) {g : Int → Int} : ∀ (k n : Nat), n + k = 65 → gX (gC nat d) nat 137 32 [some (.ref x), some (.int (J n))] [] [] (putM w x (rset M 5 (cpR (M 3) g 0 n))) = gX (gC nat d) nat 137 56 [some (.ref x), some (.int (J 65))] [] [] (putM w x (rset M 5 (cpR (M 3) g 0 65))) := by
  intro k
  induction k with
  | zero =>
    intro n hn
    rw [Nat.add_zero] at hn
    subst hn
    rw [e137_32]
    simp (disch := first | omega | exact Nat.le_of_ble_eq_true rfl) only [e137_0, e137_1, e137_4, e137_6, e137_9, e137_10, e137_13, e137_14, e137_15, e137_18, e137_19, e137_22, e137_23, e137_24, e137_27, e137_29, e137_30, e137_31, e137_33, e137_35, e137_38, e137_39, e137_42, e137_43, e137_44, e137_47, e137_48, e137_49, e137_50, e137_53, e137_57, e137_59, e137_61, e137_64, e137_65, e137_68, e137_69, e137_70, e137_73, e137_74, e137_75, e137_76, e137_79, e137_82, e137_83, e137_85, e137_86, e137_89, e137_90, e137_93, e137_95, e137_96, e137_97, e137_99, e137_100, e137_103, e137_106, e137_107, e137_108, e137_111, e137_112, e137_113, e137_116, e137_117, e137_118, e137_121, e137_122, e137_125, e137_126, e137_127, J_add, J_sub, J_mul, J_neg, J_lt, J_le, J_eq, gArr_J, gAst_J, gSiz_J, gFld_o, gUpd_o0, gUpd_o1, gUpd_o2, gUpd_o3, gUpd_o4, gUpd_o5, gUpd_o6, gUpd_o7, gUpd_o8, gUpd_o9, gUpd_o10, gUpd_o11, gUpd_o12, gUpd_o13, gUpd_o14, gUpd_o15, gUpd_o16, gUpd_o17, gUpd_o18, gIsO_o, Option.bind_some, List.getElem?_cons_zero, List.getElem?_cons_succ, List.length_cons, List.length_nil, List.set_cons_zero, List.set_cons_succ, gCat_nil, gCat_int, gCat_ref, if_pos, if_neg, Option.toList_some, Option.toList_none, List.cons_append, List.nil_append, B_nar, J1_nar, J0_nar, if_true, if_false, rd_wr_same, rd_wr_ne, true_and, and_true, B_0, B_1, not_true_eq_false, not_false_eq_true, rdM0, rdM1, rdM2, rdM3, rdM4, rdM5, rdM6, rdM7, rdM8, rdM9, rdM10, rdM11, rdM12, rset_at, rset_ne, rset_rset, w0M, wZ1, wZ2, wZ3, wZ4, wZ5, wZ6, wZ7, wZ8, wZ9, wZ10, wZ11, wZ12, f7_0, f7_1, f7_2, f7_3, f7_4, f7_5, f7_6]
    rfl
  | succ k ih =>
    intro n hn
    have this := ih (n + 1) (by omega)
    rw [← cpR_s, show ((n + 1 : Nat) : Int) = (n : Int) + 1 from rfl, Int.zero_add] at this
    rw [e137_32]
    simp (disch := first | omega | exact Nat.le_of_ble_eq_true rfl) only [e137_0, e137_1, e137_4, e137_6, e137_9, e137_10, e137_13, e137_14, e137_15, e137_18, e137_19, e137_22, e137_23, e137_24, e137_27, e137_29, e137_30, e137_31, e137_33, e137_35, e137_38, e137_39, e137_42, e137_43, e137_44, e137_47, e137_48, e137_49, e137_50, e137_53, e137_57, e137_59, e137_61, e137_64, e137_65, e137_68, e137_69, e137_70, e137_73, e137_74, e137_75, e137_76, e137_79, e137_82, e137_83, e137_85, e137_86, e137_89, e137_90, e137_93, e137_95, e137_96, e137_97, e137_99, e137_100, e137_103, e137_106, e137_107, e137_108, e137_111, e137_112, e137_113, e137_116, e137_117, e137_118, e137_121, e137_122, e137_125, e137_126, e137_127, J_add, J_sub, J_mul, J_neg, J_lt, J_le, J_eq, gArr_J, gAst_J, gSiz_J, gFld_o, gUpd_o0, gUpd_o1, gUpd_o2, gUpd_o3, gUpd_o4, gUpd_o5, gUpd_o6, gUpd_o7, gUpd_o8, gUpd_o9, gUpd_o10, gUpd_o11, gUpd_o12, gUpd_o13, gUpd_o14, gUpd_o15, gUpd_o16, gUpd_o17, gUpd_o18, gIsO_o, Option.bind_some, List.getElem?_cons_zero, List.getElem?_cons_succ, List.length_cons, List.length_nil, List.set_cons_zero, List.set_cons_succ, gCat_nil, gCat_int, gCat_ref, if_pos, if_neg, Option.toList_some, Option.toList_none, List.cons_append, List.nil_append, B_nar, J1_nar, J0_nar, if_true, if_false, rd_wr_same, rd_wr_ne, true_and, and_true, B_0, B_1, not_true_eq_false, not_false_eq_true, rdM0, rdM1, rdM2, rdM3, rdM4, rdM5, rdM6, rdM7, rdM8, rdM9, rdM10, rdM11, rdM12, rset_at, rset_ne, rset_rset, w0M, wZ1, wZ2, wZ3, wZ4, wZ5, wZ6, wZ7, wZ8, wZ9, wZ10, wZ11, wZ12, f7_0, f7_1, f7_2, f7_3, f7_4, f7_5, f7_6, this]

theorem l137b {nat : gNat} {d : Nat} {w : gWd} {x : Nat} {M : Lay} (hx : x + 12 < gSTR) {g : Int → Int} : ∀ (k n : Nat), n + k = 17 → gX (gC nat d) nat 137 58 [some (.ref x), some (.int (J n))] [] [] (putM w x (rset M 6 (cpR (M 4) g 0 n))) = gX (gC nat d) nat 137 82 [some (.ref x), some (.int (J 17))] [] [] (putM w x (rset M 6 (cpR (M 4) g 0 17))) := by
  intro k
  induction k with
  | zero =>
    intro n hn
    rw [Nat.add_zero] at hn
    subst hn
    rw [e137_58]
    simp (disch := first | omega | exact Nat.le_of_ble_eq_true rfl) only [e137_0, e137_1, e137_4, e137_6, e137_9, e137_10, e137_13, e137_14, e137_15, e137_18, e137_19, e137_22, e137_23, e137_24, e137_27, e137_29, e137_30, e137_31, e137_33, e137_35, e137_38, e137_39, e137_42, e137_43, e137_44, e137_47, e137_48, e137_49, e137_50, e137_53, e137_56, e137_57, e137_59, e137_61, e137_64, e137_65, e137_68, e137_69, e137_70, e137_73, e137_74, e137_75, e137_76, e137_79, e137_83, e137_85, e137_86, e137_89, e137_90, e137_93, e137_95, e137_96, e137_97, e137_99, e137_100, e137_103, e137_106, e137_107, e137_108, e137_111, e137_112, e137_113, e137_116, e137_117, e137_118, e137_121, e137_122, e137_125, e137_126, e137_127, J_add, J_sub, J_mul, J_neg, J_lt, J_le, J_eq, gArr_J, gAst_J, gSiz_J, gFld_o, gUpd_o0, gUpd_o1, gUpd_o2, gUpd_o3, gUpd_o4, gUpd_o5, gUpd_o6, gUpd_o7, gUpd_o8, gUpd_o9, gUpd_o10, gUpd_o11, gUpd_o12, gUpd_o13, gUpd_o14, gUpd_o15, gUpd_o16, gUpd_o17, gUpd_o18, gIsO_o, Option.bind_some, List.getElem?_cons_zero, List.getElem?_cons_succ, List.length_cons, List.length_nil, List.set_cons_zero, List.set_cons_succ, gCat_nil, gCat_int, gCat_ref, if_pos, if_neg, Option.toList_some, Option.toList_none, List.cons_append, List.nil_append, B_nar, J1_nar, J0_nar, if_true, if_false, rd_wr_same, rd_wr_ne, true_and, and_true, B_0, B_1, not_true_eq_false, not_false_eq_true, rdM0, rdM1, rdM2, rdM3, rdM4, rdM5, rdM6, rdM7, rdM8, rdM9, rdM10, rdM11, rdM12, rset_at, rset_ne, rset_rset, w0M, wZ1, wZ2, wZ3, wZ4, wZ5, wZ6, wZ7, wZ8, wZ9, wZ10, wZ11, wZ12, f7_0, f7_1, f7_2, f7_3, f7_4, f7_5, f7_6]
    rfl
  | succ k ih =>
    intro n hn
    have this := ih (n + 1) (by omega)
    rw [← cpR_s, show ((n + 1 : Nat) : Int) = (n : Int) + 1 from rfl, Int.zero_add] at this
    rw [e137_58]
    simp (disch := first | omega | exact Nat.le_of_ble_eq_true rfl) only [e137_0, e137_1, e137_4, e137_6, e137_9, e137_10, e137_13, e137_14, e137_15, e137_18, e137_19, e137_22, e137_23, e137_24, e137_27, e137_29, e137_30, e137_31, e137_33, e137_35, e137_38, e137_39, e137_42, e137_43, e137_44, e137_47, e137_48, e137_49, e137_50, e137_53, e137_56, e137_57, e137_59, e137_61, e137_64, e137_65, e137_68, e137_69, e137_70, e137_73, e137_74, e137_75, e137_76, e137_79, e137_83, e137_85, e137_86, e137_89, e137_90, e137_93, e137_95, e137_96, e137_97, e137_99, e137_100, e137_103, e137_106, e137_107, e137_108, e137_111, e137_112, e137_113, e137_116, e137_117, e137_118, e137_121, e137_122, e137_125, e137_126, e137_127, J_add, J_sub, J_mul, J_neg, J_lt, J_le, J_eq, gArr_J, gAst_J, gSiz_J, gFld_o, gUpd_o0, gUpd_o1, gUpd_o2, gUpd_o3, gUpd_o4, gUpd_o5, gUpd_o6, gUpd_o7, gUpd_o8, gUpd_o9, gUpd_o10, gUpd_o11, gUpd_o12, gUpd_o13, gUpd_o14, gUpd_o15, gUpd_o16, gUpd_o17, gUpd_o18, gIsO_o, Option.bind_some, List.getElem?_cons_zero, List.getElem?_cons_succ, List.length_cons, List.length_nil, List.set_cons_zero, List.set_cons_succ, gCat_nil, gCat_int, gCat_ref, if_pos, if_neg, Option.toList_some, Option.toList_none, List.cons_append, List.nil_append, B_nar, J1_nar, J0_nar, if_true, if_false, rd_wr_same, rd_wr_ne, true_and, and_true, B_0, B_1, not_true_eq_false, not_false_eq_true, rdM0, rdM1, rdM2, rdM3, rdM4, rdM5, rdM6, rdM7, rdM8, rdM9, rdM10, rdM11, rdM12, rset_at, rset_ne, rset_rset, w0M, wZ1, wZ2, wZ3, wZ4, wZ5, wZ6, wZ7, wZ8, wZ9, wZ10, wZ11, wZ12, f7_0, f7_1, f7_2, f7_3, f7_4, f7_5, f7_6, this]

theorem l137c {nat : gNat} {d : Nat} {w : gWd} {x : Nat} {M : Lay} (hx : x + 12 < gSTR) {g : Int → Int} : ∀ (k n : Nat), n + k = 4 → gX (gC nat d) nat 137 84 [some (.ref x), some (.int (J n))] [] [] (putM w x (rset M 6 (cpR fM4 g 13 n))) = gX (gC nat d) nat 137 106 [some (.ref x), some (.int (J 4))] [] [] (putM w x (rset M 6 (cpR fM4 g 13 4))) := by
  intro k
  induction k with
  | zero =>
    intro n hn
    rw [Nat.add_zero] at hn
    subst hn
    rw [e137_84]
    simp (disch := first | omega | exact Nat.le_of_ble_eq_true rfl) only [e137_0, e137_1, e137_4, e137_6, e137_9, e137_10, e137_13, e137_14, e137_15, e137_18, e137_19, e137_22, e137_23, e137_24, e137_27, e137_29, e137_30, e137_31, e137_33, e137_35, e137_38, e137_39, e137_42, e137_43, e137_44, e137_47, e137_48, e137_49, e137_50, e137_53, e137_56, e137_57, e137_59, e137_61, e137_64, e137_65, e137_68, e137_69, e137_70, e137_73, e137_74, e137_75, e137_76, e137_79, e137_82, e137_83, e137_85, e137_86, e137_89, e137_90, e137_93, e137_95, e137_96, e137_97, e137_99, e137_100, e137_103, e137_107, e137_108, e137_111, e137_112, e137_113, e137_116, e137_117, e137_118, e137_121, e137_122, e137_125, e137_126, e137_127, J_add, J_sub, J_mul, J_neg, J_lt, J_le, J_eq, gArr_J, gAst_J, gSiz_J, gFld_o, gUpd_o0, gUpd_o1, gUpd_o2, gUpd_o3, gUpd_o4, gUpd_o5, gUpd_o6, gUpd_o7, gUpd_o8, gUpd_o9, gUpd_o10, gUpd_o11, gUpd_o12, gUpd_o13, gUpd_o14, gUpd_o15, gUpd_o16, gUpd_o17, gUpd_o18, gIsO_o, Option.bind_some, List.getElem?_cons_zero, List.getElem?_cons_succ, List.length_cons, List.length_nil, List.set_cons_zero, List.set_cons_succ, gCat_nil, gCat_int, gCat_ref, if_pos, if_neg, Option.toList_some, Option.toList_none, List.cons_append, List.nil_append, B_nar, J1_nar, J0_nar, if_true, if_false, rd_wr_same, rd_wr_ne, true_and, and_true, B_0, B_1, not_true_eq_false, not_false_eq_true, rdM0, rdM1, rdM2, rdM3, rdM4, rdM5, rdM6, rdM7, rdM8, rdM9, rdM10, rdM11, rdM12, rset_at, rset_ne, rset_rset, w0M, wZ1, wZ2, wZ3, wZ4, wZ5, wZ6, wZ7, wZ8, wZ9, wZ10, wZ11, wZ12, f7_0, f7_1, f7_2, f7_3, f7_4, f7_5, f7_6]
    rfl
  | succ k ih =>
    intro n hn
    have this := ih (n + 1) (by omega)
    rw [← cpR_s, show ((n + 1 : Nat) : Int) = (n : Int) + 1 from rfl, fM4_e] at this
    rw [e137_84]
    simp (disch := first | omega | exact Nat.le_of_ble_eq_true rfl) only [e137_0, e137_1, e137_4, e137_6, e137_9, e137_10, e137_13, e137_14, e137_15, e137_18, e137_19, e137_22, e137_23, e137_24, e137_27, e137_29, e137_30, e137_31, e137_33, e137_35, e137_38, e137_39, e137_42, e137_43, e137_44, e137_47, e137_48, e137_49, e137_50, e137_53, e137_56, e137_57, e137_59, e137_61, e137_64, e137_65, e137_68, e137_69, e137_70, e137_73, e137_74, e137_75, e137_76, e137_79, e137_82, e137_83, e137_85, e137_86, e137_89, e137_90, e137_93, e137_95, e137_96, e137_97, e137_99, e137_100, e137_103, e137_107, e137_108, e137_111, e137_112, e137_113, e137_116, e137_117, e137_118, e137_121, e137_122, e137_125, e137_126, e137_127, J_add, J_sub, J_mul, J_neg, J_lt, J_le, J_eq, gArr_J, gAst_J, gSiz_J, gFld_o, gUpd_o0, gUpd_o1, gUpd_o2, gUpd_o3, gUpd_o4, gUpd_o5, gUpd_o6, gUpd_o7, gUpd_o8, gUpd_o9, gUpd_o10, gUpd_o11, gUpd_o12, gUpd_o13, gUpd_o14, gUpd_o15, gUpd_o16, gUpd_o17, gUpd_o18, gIsO_o, Option.bind_some, List.getElem?_cons_zero, List.getElem?_cons_succ, List.length_cons, List.length_nil, List.set_cons_zero, List.set_cons_succ, gCat_nil, gCat_int, gCat_ref, if_pos, if_neg, Option.toList_some, Option.toList_none, List.cons_append, List.nil_append, B_nar, J1_nar, J0_nar, if_true, if_false, rd_wr_same, rd_wr_ne, true_and, and_true, B_0, B_1, not_true_eq_false, not_false_eq_true, rdM0, rdM1, rdM2, rdM3, rdM4, rdM5, rdM6, rdM7, rdM8, rdM9, rdM10, rdM11, rdM12, rset_at, rset_ne, rset_rset, w0M, wZ1, wZ2, wZ3, wZ4, wZ5, wZ6, wZ7, wZ8, wZ9, wZ10, wZ11, wZ12, f7_0, f7_1, f7_2, f7_3, f7_4, f7_5, f7_6, this]

theorem mLaw_cp {K : Lay} {L g : Int → Int} (hK : vK K) (h : mLaw K L) : mLaw K (cpR L g 0 65) := by
  have k1 := hK.2.1
  have k2 := hK.2.2.1
  have k4 := hK.2.2.2.2.1
  obtain ⟨f0, f1, f2, f3, f4, fr, fg, fd⟩ := h
  have e : ∀ k : Int, 0 ≤ k → k < 65 → cpR L g 0 65 k = L k := fun k z1 z2 => by rw [cpR_at _ _ _ _ (by omega), Int.sub_zero]
  refine ⟨by rw [e _ (by omega) (by omega)]; exact f0, by rw [e _ (by omega) (by omega)]; exact f1, by rw [e _ (by omega) (by omega)]; exact f2, by rw [e _ (by omega) (by omega)]; exact f3, by rw [e _ (by omega) (by omega)]; exact f4, fun r z1 z2 => by rw [e _ (by omega) (by omega)]; exact fr r z1 z2, fun g i z1 z2 z3 z4 => by rw [e _ (by omega) (by omega)]; exact fg g i z1 z2 z3 z4, fun y z1 z2 => by rw [e _ (by omega) (by omega), e _ (by omega) (by omega)]; exact fd y z1 z2⟩
theorem mRow_beg {K : Lay} {P g : Int → Int} (hK : vK K) (h : mNow K P) : mRow K (begS K) (cpR fM4 (cpR P g 0 17) 13 4) := by
  have k1 := hK.2.1
  have k2 := hK.2.2.1
  obtain ⟨p0, p1, p2⟩ := h
  have e : ∀ k : Int, 0 ≤ k → k < 13 → cpR fM4 (cpR P g 0 17) 13 4 k = P k := fun k z1 z2 => by rw [cpR_ne _ _ _ _ (by omega), cpR_at _ _ _ _ (by omega), Int.sub_zero]
  refine ⟨?_, fun z z1 z2 => ?_, fun y z1 z2 => ⟨?_, ?_⟩⟩
  · rw [e _ (by omega) (by omega), p0]
    unfold begS
    rw [if_neg (by omega), if_neg (by omega)]
  · rw [e _ (by omega) (by omega), p1 z z1 (by omega)]
    unfold begS
    rw [if_neg (by omega), if_neg (by omega)]
  · rw [e _ (by omega) (by omega), p2 y z1 z2]
    unfold begS
    rw [if_neg (by omega), if_pos (by omega)]
  · rw [cpR_at _ _ _ _ (by omega)]
    unfold begS
    rw [if_pos (by omega)]
    rfl

theorem z137 {nat : gNat} {d : Nat} {w : gWd} {x : Nat} {t : Int} {X K S : Lay} {PT KT : Nat → Lay} {M : Lay} (hx : x + 12 < gSTR) (hI : stI t X K S PT KT M) (ht : t ≤ 1000) (Q : Lay) : ∃ M', gC nat (d + 8) 137 [.ref x] (putM w x M) = some (some (.int (J (if layC X Q then (rdX X Q).2 0 1 else -2))), putM w x M') ∧ stI t (if layC X Q then sset (sset (sset X 0 1 0) 0 3 0) 0 4 0 else X) (if layC X Q then (rdX X Q).2 else K) (if layC X Q then begS (rdX X Q).2 else S) PT KT M' := by
  obtain ⟨iR, hK, ⟨k1p, k2p⟩, ⟨hS, hH⟩, iP, iKp, iE, iT, hL, hR, ⟨m0, m3, m4, m5, m6⟩⟩ := id hI
  obtain ⟨r0, r1, r2, r3, r4, r5⟩ := id iR
  have ht' : ∀ i, 0 ≤ i → ltr (M 1) (M 0 0) i = txt X i := fun i i0 => by
    unfold txt ltr
    rw [m0]
    split
    · exact iT i i0 (by omega)
    · rfl
  have htb : ∀ i, 0 ≤ i → 0 ≤ txt X i ∧ txt X i < 128 := fun i i0 => by
    unfold txt ltr
    split
    · exact r1 i i0 (by omega)
    · omega
  obtain ⟨p', b', N', L', P', g1, g2⟩ := s136 (nat := nat) (d := d + 1) (w := w) (M := M) hx (by omega) ht' htb Q
  rw [m0] at g1 g2
  have hvK : vK (rdX X Q).2 := vK_rdl _ _ _ _ _ _ (vK_clr Q) (Or.inr rfl) (fun _ => by simp [clrK, sset])
  have hrd := rdl_in (txt X) (X 0 0) (by omega) (X 0 0).toNat 0 1 (clrK Q) (by omega)
  rw [en137]
  by_cases q1 : (rdX X Q).1 = -4
  · obtain ⟨gL, gP⟩ := g2 q1
    have gL' := id gL
    have q1' := q1
    unfold rdX at q1'
    rw [q1'] at g1
    have l1 : L' 1 = (rdX X Q).2 0 1 := gL.2.1
    have l2 : L' 2 = (rdX X Q).2 0 2 := gL.2.2.1
    have v1 := hvK.2.1
    have v2 := hvK.2.2.1
    by_cases q2 : (rdX X Q).2 0 1 < 1
    · have hC : ¬ layC X Q := fun z => z.2.1 q2
      rw [if_neg hC, if_neg hC, if_neg hC, if_neg hC]
      refine ⟨rst M p' b' N' L' P', ?_, stI_rst hI⟩
      have l1' : L' 1 = 0 := by omega
      simp (disch := first | omega | exact Nat.le_of_ble_eq_true rfl) only [e137_0, e137_1, e137_4, e137_6, e137_9, e137_10, e137_13, e137_14, e137_15, e137_18, e137_19, e137_22, e137_23, e137_24, e137_27, e137_29, e137_30, e137_31, e137_33, e137_35, e137_38, e137_39, e137_42, e137_43, e137_44, e137_47, e137_48, e137_49, e137_50, e137_53, e137_56, e137_57, e137_59, e137_61, e137_64, e137_65, e137_68, e137_69, e137_70, e137_73, e137_74, e137_75, e137_76, e137_79, e137_82, e137_83, e137_85, e137_86, e137_89, e137_90, e137_93, e137_95, e137_96, e137_97, e137_99, e137_100, e137_103, e137_106, e137_107, e137_108, e137_111, e137_112, e137_113, e137_116, e137_117, e137_118, e137_121, e137_122, e137_125, e137_126, e137_127, J_add, J_sub, J_mul, J_neg, J_lt, J_le, J_eq, gArr_J, gAst_J, gSiz_J, gFld_o, gUpd_o0, gUpd_o1, gUpd_o2, gUpd_o3, gUpd_o4, gUpd_o5, gUpd_o6, gUpd_o7, gUpd_o8, gUpd_o9, gUpd_o10, gUpd_o11, gUpd_o12, gUpd_o13, gUpd_o14, gUpd_o15, gUpd_o16, gUpd_o17, gUpd_o18, gIsO_o, Option.bind_some, List.getElem?_cons_zero, List.getElem?_cons_succ, List.length_cons, List.length_nil, List.set_cons_zero, List.set_cons_succ, gCat_nil, gCat_int, gCat_ref, if_pos, if_neg, Option.toList_some, Option.toList_none, List.cons_append, List.nil_append, B_nar, J1_nar, J0_nar, if_true, if_false, rd_wr_same, rd_wr_ne, true_and, and_true, B_0, B_1, not_true_eq_false, not_false_eq_true, rdM0, rdM1, rdM2, rdM3, rdM4, rdM5, rdM6, rdM7, rdM8, rdM9, rdM10, rdM11, rdM12, rset_at, rset_ne, rset_rset, w0M, wZ1, wZ2, wZ3, wZ4, wZ5, wZ6, wZ7, wZ8, wZ9, wZ10, wZ11, wZ12, f7_0, f7_1, f7_2, f7_3, f7_4, f7_5, f7_6, rst00, rst01, rst02, rst03, rst04, rst05, rst06, rst_1, rst_2, rst_3, rst_4, rst_w0, rst_w2, rst_w3, rst_w4, g1, l1']
    · by_cases q3 : (rdX X Q).2 0 2 < 1
      · have hC : ¬ layC X Q := fun z => z.2.2 q3
        rw [if_neg hC, if_neg hC, if_neg hC, if_neg hC]
        refine ⟨rst M p' b' N' L' P', ?_, stI_rst hI⟩
        have l2' : L' 2 = 0 := by omega
        simp (disch := first | omega | exact Nat.le_of_ble_eq_true rfl) only [e137_0, e137_1, e137_4, e137_6, e137_9, e137_10, e137_13, e137_14, e137_15, e137_18, e137_19, e137_22, e137_23, e137_24, e137_27, e137_29, e137_30, e137_31, e137_33, e137_35, e137_38, e137_39, e137_42, e137_43, e137_44, e137_47, e137_48, e137_49, e137_50, e137_53, e137_56, e137_57, e137_59, e137_61, e137_64, e137_65, e137_68, e137_69, e137_70, e137_73, e137_74, e137_75, e137_76, e137_79, e137_82, e137_83, e137_85, e137_86, e137_89, e137_90, e137_93, e137_95, e137_96, e137_97, e137_99, e137_100, e137_103, e137_106, e137_107, e137_108, e137_111, e137_112, e137_113, e137_116, e137_117, e137_118, e137_121, e137_122, e137_125, e137_126, e137_127, J_add, J_sub, J_mul, J_neg, J_lt, J_le, J_eq, gArr_J, gAst_J, gSiz_J, gFld_o, gUpd_o0, gUpd_o1, gUpd_o2, gUpd_o3, gUpd_o4, gUpd_o5, gUpd_o6, gUpd_o7, gUpd_o8, gUpd_o9, gUpd_o10, gUpd_o11, gUpd_o12, gUpd_o13, gUpd_o14, gUpd_o15, gUpd_o16, gUpd_o17, gUpd_o18, gIsO_o, Option.bind_some, List.getElem?_cons_zero, List.getElem?_cons_succ, List.length_cons, List.length_nil, List.set_cons_zero, List.set_cons_succ, gCat_nil, gCat_int, gCat_ref, if_pos, if_neg, Option.toList_some, Option.toList_none, List.cons_append, List.nil_append, B_nar, J1_nar, J0_nar, if_true, if_false, rd_wr_same, rd_wr_ne, true_and, and_true, B_0, B_1, not_true_eq_false, not_false_eq_true, rdM0, rdM1, rdM2, rdM3, rdM4, rdM5, rdM6, rdM7, rdM8, rdM9, rdM10, rdM11, rdM12, rset_at, rset_ne, rset_rset, w0M, wZ1, wZ2, wZ3, wZ4, wZ5, wZ6, wZ7, wZ8, wZ9, wZ10, wZ11, wZ12, f7_0, f7_1, f7_2, f7_3, f7_4, f7_5, f7_6, rst00, rst01, rst02, rst03, rst04, rst05, rst06, rst_1, rst_2, rst_3, rst_4, rst_w0, rst_w2, rst_w3, rst_w4, g1, l1, l2']
      · have hC : layC X Q := ⟨q1, q2, q3⟩
        rw [if_pos hC, if_pos hC, if_pos hC, if_pos hC]
        have ha := l137a (nat := nat) (d := d + 7) (w := w) (M := rst M p' b' N' L' P') hx (g := M 5) 65 0 (by omega)
        have hb := l137b (nat := nat) (d := d + 7) (w := w) (M := rset (rst M p' b' N' L' P') 5 (cpR L' (M 5) 0 65)) hx (g := M 6) 17 0 (by omega)
        have hc := l137c (nat := nat) (d := d + 7) (w := w) (M := rset (rset (rst M p' b' N' L' P') 5 (cpR L' (M 5) 0 65)) 6 (cpR P' (M 6) 0 17)) hx (g := cpR P' (M 6) 0 17) 4 0 (by omega)
        rw [cpR_z, show ((0 : Nat) : Int) = 0 from rfl, rst_3, show M 5 = rst M p' b' N' L' P' 5 from rfl, rset_self] at ha
        rw [cpR_z, show ((0 : Nat) : Int) = 0 from rfl, rset_ne (show (4 : Int) ≠ 5 by decide), rst_4, show rset (rset (rst M p' b' N' L' P') 5 (cpR L' (M 5) 0 65)) 6 (M 6) = rset (rst M p' b' N' L' P') 5 (cpR L' (M 5) 0 65) from by
          funext a
          by_cases h6 : a = 6
          · subst h6
            rw [rset_at, rset_ne (by decide)]
            rfl
          · rw [rset_ne h6]] at hb
        rw [cpR_z, show ((0 : Nat) : Int) = 0 from rfl, rset_rset, rset_rset] at hc
        refine ⟨rset (rset (rset (rst M p' b' N' L' P') 5 (cpR L' (M 5) 0 65)) 6 (cpR fM4 (cpR P' (M 6) 0 17) 13 4)) 0 (f7 (M 0 0) p' b' 0 (M 0 4) 0 0), ?_, ?_⟩
        · have l5 : cpR L' (M 5) 0 65 1 = (rdX X Q).2 0 1 := by rw [cpR_at _ _ _ _ (by omega), Int.sub_zero]; exact l1
          simp (disch := first | omega | exact Nat.le_of_ble_eq_true rfl) only [e137_0, e137_1, e137_4, e137_6, e137_9, e137_10, e137_13, e137_14, e137_15, e137_18, e137_19, e137_22, e137_23, e137_24, e137_27, e137_29, e137_30, e137_31, e137_33, e137_35, e137_38, e137_39, e137_42, e137_43, e137_44, e137_47, e137_48, e137_49, e137_50, e137_53, e137_57, e137_59, e137_61, e137_64, e137_65, e137_68, e137_69, e137_70, e137_73, e137_74, e137_75, e137_76, e137_79, e137_83, e137_85, e137_86, e137_89, e137_90, e137_93, e137_95, e137_96, e137_97, e137_99, e137_100, e137_103, e137_107, e137_108, e137_111, e137_112, e137_113, e137_116, e137_117, e137_118, e137_121, e137_122, e137_125, e137_126, e137_127, J_add, J_sub, J_mul, J_neg, J_lt, J_le, J_eq, gArr_J, gAst_J, gSiz_J, gFld_o, gUpd_o0, gUpd_o1, gUpd_o2, gUpd_o3, gUpd_o4, gUpd_o5, gUpd_o6, gUpd_o7, gUpd_o8, gUpd_o9, gUpd_o10, gUpd_o11, gUpd_o12, gUpd_o13, gUpd_o14, gUpd_o15, gUpd_o16, gUpd_o17, gUpd_o18, gIsO_o, Option.bind_some, List.getElem?_cons_zero, List.getElem?_cons_succ, List.length_cons, List.length_nil, List.set_cons_zero, List.set_cons_succ, gCat_nil, gCat_int, gCat_ref, if_pos, if_neg, Option.toList_some, Option.toList_none, List.cons_append, List.nil_append, B_nar, J1_nar, J0_nar, if_true, if_false, rd_wr_same, rd_wr_ne, true_and, and_true, B_0, B_1, not_true_eq_false, not_false_eq_true, rdM0, rdM1, rdM2, rdM3, rdM4, rdM5, rdM6, rdM7, rdM8, rdM9, rdM10, rdM11, rdM12, rset_at, rset_ne, rset_rset, w0M, wZ1, wZ2, wZ3, wZ4, wZ5, wZ6, wZ7, wZ8, wZ9, wZ10, wZ11, wZ12, f7_0, f7_1, f7_2, f7_3, f7_4, f7_5, f7_6, rst00, rst01, rst02, rst03, rst04, rst05, rst06, rst_1, rst_2, rst_3, rst_4, rst_w0, rst_w2, rst_w3, rst_w4, g1, l1, l2, ha]
          rw [show rst M p' b' N' L' P' 5 = M 5 from rfl, e137_56]
          simp (disch := first | omega | exact Nat.le_of_ble_eq_true rfl) only [e137_0, e137_1, e137_4, e137_6, e137_9, e137_10, e137_13, e137_14, e137_15, e137_18, e137_19, e137_22, e137_23, e137_24, e137_27, e137_29, e137_30, e137_31, e137_33, e137_35, e137_38, e137_39, e137_42, e137_43, e137_44, e137_47, e137_48, e137_49, e137_50, e137_53, e137_56, e137_57, e137_59, e137_61, e137_64, e137_65, e137_68, e137_69, e137_70, e137_73, e137_74, e137_75, e137_76, e137_79, e137_83, e137_85, e137_86, e137_89, e137_90, e137_93, e137_95, e137_96, e137_97, e137_99, e137_100, e137_103, e137_107, e137_108, e137_111, e137_112, e137_113, e137_116, e137_117, e137_118, e137_121, e137_122, e137_125, e137_126, e137_127, J_add, J_sub, J_mul, J_neg, J_lt, J_le, J_eq, gArr_J, gAst_J, gSiz_J, gFld_o, gUpd_o0, gUpd_o1, gUpd_o2, gUpd_o3, gUpd_o4, gUpd_o5, gUpd_o6, gUpd_o7, gUpd_o8, gUpd_o9, gUpd_o10, gUpd_o11, gUpd_o12, gUpd_o13, gUpd_o14, gUpd_o15, gUpd_o16, gUpd_o17, gUpd_o18, gIsO_o, Option.bind_some, List.getElem?_cons_zero, List.getElem?_cons_succ, List.length_cons, List.length_nil, List.set_cons_zero, List.set_cons_succ, gCat_nil, gCat_int, gCat_ref, if_pos, if_neg, Option.toList_some, Option.toList_none, List.cons_append, List.nil_append, B_nar, J1_nar, J0_nar, if_true, if_false, rd_wr_same, rd_wr_ne, true_and, and_true, B_0, B_1, not_true_eq_false, not_false_eq_true, rdM0, rdM1, rdM2, rdM3, rdM4, rdM5, rdM6, rdM7, rdM8, rdM9, rdM10, rdM11, rdM12, rset_at, rset_ne, rset_rset, w0M, wZ1, wZ2, wZ3, wZ4, wZ5, wZ6, wZ7, wZ8, wZ9, wZ10, wZ11, wZ12, f7_0, f7_1, f7_2, f7_3, f7_4, f7_5, f7_6, rst00, rst01, rst02, rst03, rst04, rst05, rst06, rst_1, rst_2, rst_3, rst_4, rst_w0, rst_w2, rst_w3, rst_w4, hb]
          rw [e137_82]
          simp (disch := first | omega | exact Nat.le_of_ble_eq_true rfl) only [e137_0, e137_1, e137_4, e137_6, e137_9, e137_10, e137_13, e137_14, e137_15, e137_18, e137_19, e137_22, e137_23, e137_24, e137_27, e137_29, e137_30, e137_31, e137_33, e137_35, e137_38, e137_39, e137_42, e137_43, e137_44, e137_47, e137_48, e137_49, e137_50, e137_53, e137_56, e137_57, e137_59, e137_61, e137_64, e137_65, e137_68, e137_69, e137_70, e137_73, e137_74, e137_75, e137_76, e137_79, e137_82, e137_83, e137_85, e137_86, e137_89, e137_90, e137_93, e137_95, e137_96, e137_97, e137_99, e137_100, e137_103, e137_107, e137_108, e137_111, e137_112, e137_113, e137_116, e137_117, e137_118, e137_121, e137_122, e137_125, e137_126, e137_127, J_add, J_sub, J_mul, J_neg, J_lt, J_le, J_eq, gArr_J, gAst_J, gSiz_J, gFld_o, gUpd_o0, gUpd_o1, gUpd_o2, gUpd_o3, gUpd_o4, gUpd_o5, gUpd_o6, gUpd_o7, gUpd_o8, gUpd_o9, gUpd_o10, gUpd_o11, gUpd_o12, gUpd_o13, gUpd_o14, gUpd_o15, gUpd_o16, gUpd_o17, gUpd_o18, gIsO_o, Option.bind_some, List.getElem?_cons_zero, List.getElem?_cons_succ, List.length_cons, List.length_nil, List.set_cons_zero, List.set_cons_succ, gCat_nil, gCat_int, gCat_ref, if_pos, if_neg, Option.toList_some, Option.toList_none, List.cons_append, List.nil_append, B_nar, J1_nar, J0_nar, if_true, if_false, rd_wr_same, rd_wr_ne, true_and, and_true, B_0, B_1, not_true_eq_false, not_false_eq_true, rdM0, rdM1, rdM2, rdM3, rdM4, rdM5, rdM6, rdM7, rdM8, rdM9, rdM10, rdM11, rdM12, rset_at, rset_ne, rset_rset, w0M, wZ1, wZ2, wZ3, wZ4, wZ5, wZ6, wZ7, wZ8, wZ9, wZ10, wZ11, wZ12, f7_0, f7_1, f7_2, f7_3, f7_4, f7_5, f7_6, rst00, rst01, rst02, rst03, rst04, rst05, rst06, rst_1, rst_2, rst_3, rst_4, rst_w0, rst_w2, rst_w3, rst_w4, hc]
          rw [e137_106]
          simp (disch := first | omega | exact Nat.le_of_ble_eq_true rfl) only [e137_0, e137_1, e137_4, e137_6, e137_9, e137_10, e137_13, e137_14, e137_15, e137_18, e137_19, e137_22, e137_23, e137_24, e137_27, e137_29, e137_30, e137_31, e137_33, e137_35, e137_38, e137_39, e137_42, e137_43, e137_44, e137_47, e137_48, e137_49, e137_50, e137_53, e137_56, e137_57, e137_59, e137_61, e137_64, e137_65, e137_68, e137_69, e137_70, e137_73, e137_74, e137_75, e137_76, e137_79, e137_82, e137_83, e137_85, e137_86, e137_89, e137_90, e137_93, e137_95, e137_96, e137_97, e137_99, e137_100, e137_103, e137_106, e137_107, e137_108, e137_111, e137_112, e137_113, e137_116, e137_117, e137_118, e137_121, e137_122, e137_125, e137_126, e137_127, J_add, J_sub, J_mul, J_neg, J_lt, J_le, J_eq, gArr_J, gAst_J, gSiz_J, gFld_o, gUpd_o0, gUpd_o1, gUpd_o2, gUpd_o3, gUpd_o4, gUpd_o5, gUpd_o6, gUpd_o7, gUpd_o8, gUpd_o9, gUpd_o10, gUpd_o11, gUpd_o12, gUpd_o13, gUpd_o14, gUpd_o15, gUpd_o16, gUpd_o17, gUpd_o18, gIsO_o, Option.bind_some, List.getElem?_cons_zero, List.getElem?_cons_succ, List.length_cons, List.length_nil, List.set_cons_zero, List.set_cons_succ, gCat_nil, gCat_int, gCat_ref, if_pos, if_neg, Option.toList_some, Option.toList_none, List.cons_append, List.nil_append, B_nar, J1_nar, J0_nar, if_true, if_false, rd_wr_same, rd_wr_ne, true_and, and_true, B_0, B_1, not_true_eq_false, not_false_eq_true, rdM0, rdM1, rdM2, rdM3, rdM4, rdM5, rdM6, rdM7, rdM8, rdM9, rdM10, rdM11, rdM12, rset_at, rset_ne, rset_rset, w0M, wZ1, wZ2, wZ3, wZ4, wZ5, wZ6, wZ7, wZ8, wZ9, wZ10, wZ11, wZ12, f7_0, f7_1, f7_2, f7_3, f7_4, f7_5, f7_6, rst00, rst01, rst02, rst03, rst04, rst05, rst06, rst_1, rst_2, rst_3, rst_4, rst_w0, rst_w2, rst_w3, rst_w4, l5]
        · have ex : ∀ j : Int, j ≠ 1 → j ≠ 3 → j ≠ 4 → (sset (sset (sset X 0 1 0) 0 3 0) 0 4 0) 0 j = X 0 j := by
            intro j h1 h3 h4
            rw [sx _ _ _ _ h4, sx _ _ _ _ h3, sx _ _ _ _ h1]
          have er : ∀ k : Int, k ≠ 0 → (sset (sset (sset X 0 1 0) 0 3 0) 0 4 0) k = X k := by
            intro k h0
            rw [sset_row h0, sset_row h0, sset_row h0]
          have x1 : (sset (sset (sset X 0 1 0) 0 3 0) 0 4 0) 0 1 = 0 := by rw [sx _ _ _ _ (by decide), sx _ _ _ _ (by decide), sset_at]
          have x3 : (sset (sset (sset X 0 1 0) 0 3 0) 0 4 0) 0 3 = 0 := by rw [sx _ _ _ _ (by decide), sset_at]
          have x4 : (sset (sset (sset X 0 1 0) 0 3 0) 0 4 0) 0 4 = 0 := by rw [sset_at]
          have s0 := hS.1
          refine ⟨⟨by rw [ex _ (by decide) (by decide) (by decide)]; exact r0, fun i i1 i2 => by rw [er _ (by decide)]; exact r1 i i1 i2, by rw [x1]; omega, by rw [ex _ (by decide) (by decide) (by decide)]; exact r3, by rw [x3]; omega, by rw [x4]; omega⟩, hvK, ⟨by omega, by omega⟩, ⟨vS_beg hvK, by show (0 : Int) ≤ _; omega⟩, ?_, ?_, ?_, ?_, ?_, ?_, ?_⟩
          · intro i i1 i2
            rw [x1] at i2
            omega
          · intro i i1 i2
            rw [x3] at i2
            omega
          · intro i i1 i2
            rw [x4] at i2
            omega
          · unfold tI
            rw [ex _ (by decide) (by decide) (by decide), er _ (by decide)]
            exact iT
          · rw [rset_ne (by decide), rset_ne (by decide), rset_at]
            exact mLaw_cp hvK gL
          · rw [rset_ne (by decide), rset_at]
            exact mRow_beg hvK gP
          · rw [rset_at, f7_0, f7_3, f7_4, f7_5, f7_6, ex _ (by decide) (by decide) (by decide), x1, x3, x4]
            exact ⟨m0, rfl, m4, rfl, rfl⟩
  · have hC : ¬ layC X Q := fun z => q1 z.1
    rw [if_neg hC, if_neg hC, if_neg hC, if_neg hC]
    refine ⟨rst M p' b' N' L' P', ?_, stI_rst hI⟩
    unfold rdX at q1
    simp (disch := first | omega | exact Nat.le_of_ble_eq_true rfl) only [e137_0, e137_1, e137_4, e137_6, e137_9, e137_10, e137_13, e137_14, e137_15, e137_18, e137_19, e137_22, e137_23, e137_24, e137_27, e137_29, e137_30, e137_31, e137_33, e137_35, e137_38, e137_39, e137_42, e137_43, e137_44, e137_47, e137_48, e137_49, e137_50, e137_53, e137_56, e137_57, e137_59, e137_61, e137_64, e137_65, e137_68, e137_69, e137_70, e137_73, e137_74, e137_75, e137_76, e137_79, e137_82, e137_83, e137_85, e137_86, e137_89, e137_90, e137_93, e137_95, e137_96, e137_97, e137_99, e137_100, e137_103, e137_106, e137_107, e137_108, e137_111, e137_112, e137_113, e137_116, e137_117, e137_118, e137_121, e137_122, e137_125, e137_126, e137_127, J_add, J_sub, J_mul, J_neg, J_lt, J_le, J_eq, gArr_J, gAst_J, gSiz_J, gFld_o, gUpd_o0, gUpd_o1, gUpd_o2, gUpd_o3, gUpd_o4, gUpd_o5, gUpd_o6, gUpd_o7, gUpd_o8, gUpd_o9, gUpd_o10, gUpd_o11, gUpd_o12, gUpd_o13, gUpd_o14, gUpd_o15, gUpd_o16, gUpd_o17, gUpd_o18, gIsO_o, Option.bind_some, List.getElem?_cons_zero, List.getElem?_cons_succ, List.length_cons, List.length_nil, List.set_cons_zero, List.set_cons_succ, gCat_nil, gCat_int, gCat_ref, if_pos, if_neg, Option.toList_some, Option.toList_none, List.cons_append, List.nil_append, B_nar, J1_nar, J0_nar, if_true, if_false, rd_wr_same, rd_wr_ne, true_and, and_true, B_0, B_1, not_true_eq_false, not_false_eq_true, rdM0, rdM1, rdM2, rdM3, rdM4, rdM5, rdM6, rdM7, rdM8, rdM9, rdM10, rdM11, rdM12, rset_at, rset_ne, rset_rset, w0M, wZ1, wZ2, wZ3, wZ4, wZ5, wZ6, wZ7, wZ8, wZ9, wZ10, wZ11, wZ12, f7_0, f7_1, f7_2, f7_3, f7_4, f7_5, f7_6, rst00, rst01, rst02, rst03, rst04, rst05, rst06, rst_1, rst_2, rst_3, rst_4, rst_w0, rst_w2, rst_w3, rst_w4, g1]
