theorem du_ge {K : Lay} {cl : Nat} {L : Int → Nat} : ∀ (k : Nat) (y c : Int) (G : Int → Int) (C : Int → Nat) (b : Int × (Int → Int)), c ≤ (du K cl L k y c G C b).1 := by
  intro k
  induction k with
  | zero =>
    intro y c G C b
    unfold du
    split
    · assumption
    · exact Int.le_refl c
  | succ k ih =>
    intro y c G C b
    unfold du
    exact ih _ _ _ _ _
theorem dgl_in {K : Lay} {c x : Nat} : dgl K c x < ((K 0 1).toNat + 1) := Nat.mod_lt _ (by omega)
theorem gl_in {K : Lay} {c : Nat} {x : Int} (hK : vK K) : gl K c x = -4 ∨ (0 ≤ gl K c x ∧ gl K c x < K 0 1) := by
  have k1 := hK.2.1
  unfold gl
  split
  · exact Or.inr ⟨by omega, by omega⟩
  · exact Or.inl rfl
theorem gl_at {K : Lay} {c x : Nat} : gl K c x = if dgl K c x < (K 0 1).toNat then ((dgl K c x : Nat) : Int) else -4 := by
  show (if dgl K c (x : Int).toNat < _ then _ else _) = _
  rw [Int.toNat_natCast]
theorem okB_okA {K S : Lay} (hK : vK K) {c : Nat} (h : okB K S c (K 0 2).toNat = true) : okA K S (gl K c) := fun x x1 x2 => by
  have k1 := hK.2.1
  have h1 := (okB_t _).mp h x.toNat (by omega)
  have h2 : gl K c x = if dgl K c x.toNat < (K 0 1).toNat then ((dgl K c x.toNat : Nat) : Int) else -4 := rfl
  rw [h2]
  by_cases q : dgl K c x.toNat < (K 0 1).toNat
  · rw [if_pos q]
    exact Or.inr ⟨by omega, by omega, fun z => h1 ⟨q, z⟩⟩
  · rw [if_neg q]
    exact Or.inl rfl
theorem l171 {nat : gNat} {d : Nat} {w : gWd} {x : Nat} {M K : Lay} (hx : x + 12 < gSTR) (hL : mLaw K (M 5)) (hK : vK K) {z1 : Option Value} {y : Nat} (hy : y ≤ 4) : ∀ (j v : Nat), y + j ≤ 4 → v < 100000 → gX (gC nat d) nat 171 12 [some (.ref x), z1, some (.int (J y)), some (.int (J v)), some (.int (J ((y : Int) + j)))] [] [] (putM w x M) = some (some (.int (J (v / ((K 0 1).toNat + 1) ^ j % ((K 0 1).toNat + 1) : Nat))), (putM w x M)) := by
  obtain ⟨k0, k1, k2, k3, k4, kg, kd, kr⟩ := id hK
  obtain ⟨f0, f1, f2, f3, f4, fr, fg, fd⟩ := id hL
  have eB : (((K 0 1).toNat + 1 : Nat) : Int) = K 0 1 + 1 := by omega
  intro j
  induction j with
  | zero =>
    intro v hj hv
    rw [Nat.pow_zero, Nat.div_one, Int.natCast_emod, eB, show (y : Int) + ((0 : Nat) : Int) = y from by omega, e171_12]
    simp (disch := first | omega | exact Nat.le_of_ble_eq_true rfl) only [e171_0, e171_1, e171_2, e171_3, e171_6, e171_7, e171_8, e171_9, e171_10, e171_14, e171_15, e171_18, e171_19, e171_20, e171_23, e171_24, e171_25, e171_26, e171_27, e171_28, e171_29, e171_32, e171_35, e171_36, e171_37, e171_40, e171_41, e171_42, e171_43, e171_44, e171_45, J_add, J_sub, J_mul, J_neg, J_lt, J_le, J_eq, gArr_J, gAst_J, gSiz_J, gFld_o, gUpd_o0, gUpd_o1, gUpd_o2, gUpd_o3, gUpd_o4, gUpd_o5, gUpd_o6, gUpd_o7, gUpd_o8, gUpd_o9, gUpd_o10, gUpd_o11, gUpd_o12, gUpd_o13, gUpd_o14, gUpd_o15, gUpd_o16, gUpd_o17, gUpd_o18, gIsO_o, Option.bind_some, List.getElem?_cons_zero, List.getElem?_cons_succ, List.length_cons, List.length_nil, List.set_cons_zero, List.set_cons_succ, gCat_nil, gCat_int, gCat_ref, if_pos, if_neg, Option.toList_some, Option.toList_none, List.cons_append, List.nil_append, B_nar, J1_nar, J0_nar, if_true, if_false, rd_wr_same, rd_wr_ne, true_and, and_true, B_0, B_1, not_true_eq_false, not_false_eq_true, rdM0, rdM1, rdM2, rdM3, rdM4, rdM5, rdM6, rdM7, rdM8, rdM9, rdM10, rdM11, rdM12, rset_at, rset_ne, rset_rset, w0M, wZ1, wZ2, wZ3, wZ4, wZ5, wZ6, wZ7, wZ8, wZ9, wZ10, wZ11, wZ12, f7_0, f7_1, f7_2, f7_3, f7_4, f7_5, f7_6, f1, J_div, I_mod, J_ne0]
  | succ j ih =>
    intro v hj hv
    have hle := Nat.div_le_self v ((K 0 1).toNat + 1)
    have this := ih (v / ((K 0 1).toNat + 1)) (by omega) (by omega)
    rw [Nat.div_div_eq_div_mul, Nat.mul_comm ((K 0 1).toNat + 1), ← Nat.pow_succ, Int.natCast_ediv, eB] at this
    have e1 : (y : Int) + ((j + 1 : Nat) : Int) + -1 = (y : Int) + j := by omega
    rw [e171_12]
    simp (disch := first | omega | exact Nat.le_of_ble_eq_true rfl) only [e171_0, e171_1, e171_2, e171_3, e171_6, e171_7, e171_8, e171_9, e171_10, e171_14, e171_15, e171_18, e171_19, e171_20, e171_23, e171_24, e171_25, e171_26, e171_27, e171_28, e171_29, e171_32, e171_35, e171_36, e171_37, e171_40, e171_41, e171_42, e171_43, e171_44, e171_45, J_add, J_sub, J_mul, J_neg, J_lt, J_le, J_eq, gArr_J, gAst_J, gSiz_J, gFld_o, gUpd_o0, gUpd_o1, gUpd_o2, gUpd_o3, gUpd_o4, gUpd_o5, gUpd_o6, gUpd_o7, gUpd_o8, gUpd_o9, gUpd_o10, gUpd_o11, gUpd_o12, gUpd_o13, gUpd_o14, gUpd_o15, gUpd_o16, gUpd_o17, gUpd_o18, gIsO_o, Option.bind_some, List.getElem?_cons_zero, List.getElem?_cons_succ, List.length_cons, List.length_nil, List.set_cons_zero, List.set_cons_succ, gCat_nil, gCat_int, gCat_ref, if_pos, if_neg, Option.toList_some, Option.toList_none, List.cons_append, List.nil_append, B_nar, J1_nar, J0_nar, if_true, if_false, rd_wr_same, rd_wr_ne, true_and, and_true, B_0, B_1, not_true_eq_false, not_false_eq_true, rdM0, rdM1, rdM2, rdM3, rdM4, rdM5, rdM6, rdM7, rdM8, rdM9, rdM10, rdM11, rdM12, rset_at, rset_ne, rset_rset, w0M, wZ1, wZ2, wZ3, wZ4, wZ5, wZ6, wZ7, wZ8, wZ9, wZ10, wZ11, wZ12, f7_0, f7_1, f7_2, f7_3, f7_4, f7_5, f7_6, f1, J_div, J_ne0, e1, this]

theorem s171 {nat : gNat} {d : Nat} {w : gWd} {x : Nat} {M K : Lay} (hx : x + 12 < gSTR) (hL : mLaw K (M 5)) (hK : vK K) {c y : Nat} (hc : c < 100000) (hy : (y : Int) < K 0 2)  : gC nat (d + 1) 171 [.ref x, .int (J c), .int (J y)] (putM w x M) = some (some (.int (J (dgl K c y : Nat))), (putM w x M)) := by
  obtain ⟨k0, k1, k2, k3, k4, kg, kd, kr⟩ := id hK
  obtain ⟨f0, f1, f2, f3, f4, fr, fg, fd⟩ := id hL
  have h := l171 (nat := nat) (d := d) (w := w) hx hL hK (z1 := some (.int (J c))) (y := y) (by omega) ((K 0 2).toNat - 1 - y) c (by omega) hc
  rw [show (y : Int) + (((K 0 2).toNat - 1 - y : Nat) : Int) = K 0 2 - 1 from by omega] at h
  unfold dgl
  rw [en171]
  simp (disch := first | omega | exact Nat.le_of_ble_eq_true rfl) only [e171_0, e171_1, e171_2, e171_3, e171_6, e171_7, e171_8, e171_9, e171_10, e171_14, e171_15, e171_18, e171_19, e171_20, e171_23, e171_24, e171_25, e171_26, e171_27, e171_28, e171_29, e171_32, e171_35, e171_36, e171_37, e171_40, e171_41, e171_42, e171_43, e171_44, e171_45, J_add, J_sub, J_mul, J_neg, J_lt, J_le, J_eq, gArr_J, gAst_J, gSiz_J, gFld_o, gUpd_o0, gUpd_o1, gUpd_o2, gUpd_o3, gUpd_o4, gUpd_o5, gUpd_o6, gUpd_o7, gUpd_o8, gUpd_o9, gUpd_o10, gUpd_o11, gUpd_o12, gUpd_o13, gUpd_o14, gUpd_o15, gUpd_o16, gUpd_o17, gUpd_o18, gIsO_o, Option.bind_some, List.getElem?_cons_zero, List.getElem?_cons_succ, List.length_cons, List.length_nil, List.set_cons_zero, List.set_cons_succ, gCat_nil, gCat_int, gCat_ref, if_pos, if_neg, Option.toList_some, Option.toList_none, List.cons_append, List.nil_append, B_nar, J1_nar, J0_nar, if_true, if_false, rd_wr_same, rd_wr_ne, true_and, and_true, B_0, B_1, not_true_eq_false, not_false_eq_true, rdM0, rdM1, rdM2, rdM3, rdM4, rdM5, rdM6, rdM7, rdM8, rdM9, rdM10, rdM11, rdM12, rset_at, rset_ne, rset_rset, w0M, wZ1, wZ2, wZ3, wZ4, wZ5, wZ6, wZ7, wZ8, wZ9, wZ10, wZ11, wZ12, f7_0, f7_1, f7_2, f7_3, f7_4, f7_5, f7_6, f2, h]

theorem l172a {nat : gNat} {d : Nat} {w : gWd} {x : Nat} {M K : Lay} (hx : x + 12 < gSTR) (hL : mLaw K (M 5)) (hK : vK K) {S : Lay} (hR : mRow K S (M 6)) (hS : vS K S) {c : Nat} (hc : c < 100000) {N : Int} {f : Int → Int} {D : Nat} (hD : (D : Int) = K 0 2) (hok : okB K S c D = true) : ∀ (k i : Nat) (z4 : Option Value), i + k = D → ∃ z4', gX (gC nat (d + 2)) nat 172 6 [some (.ref x), some (.int (J N)), some (.int (J c)), some (.int (J (i : Nat))), z4] [] [] (putM w x (rset M 7 (cpR (gl K c) f 13 i))) = gX (gC nat (d + 2)) nat 172 83 [some (.ref x), some (.int (J N)), some (.int (J c)), some (.int (J (D : Nat))), z4'] [] [] (putM w x (rset M 7 (cpR (gl K c) f 13 D))) := by
  obtain ⟨k0, k1, k2, k3, k4, kg, kd, kr⟩ := id hK
  obtain ⟨f0, f1, f2, f3, f4, fr, fg, fd⟩ := id hL
  intro k
  induction k with
  | zero =>
    intro i z4 hi
    rw [Nat.add_zero] at hi
    subst hi
    refine ⟨z4, ?_⟩
    rw [e172_6]
    simp (disch := first | omega | exact Nat.le_of_ble_eq_true rfl) only [e172_0, e172_1, e172_4, e172_5, e172_7, e172_8, e172_11, e172_12, e172_13, e172_16, e172_17, e172_18, e172_19, e172_22, e172_24, e172_26, e172_27, e172_30, e172_31, e172_32, e172_35, e172_36, e172_37, e172_40, e172_42, e172_45, e172_48, e172_49, e172_50, e172_51, e172_54, e172_56, e172_57, e172_58, e172_60, e172_61, e172_64, e172_65, e172_66, e172_69, e172_71, e172_74, e172_76, e172_77, e172_80, e172_84, e172_86, e172_87, e172_90, e172_91, e172_92, e172_95, e172_98, e172_101, e172_104, e172_105, e172_106, e172_109, e172_112, e172_115, J_add, J_sub, J_mul, J_neg, J_lt, J_le, J_eq, gArr_J, gAst_J, gSiz_J, gFld_o, gUpd_o0, gUpd_o1, gUpd_o2, gUpd_o3, gUpd_o4, gUpd_o5, gUpd_o6, gUpd_o7, gUpd_o8, gUpd_o9, gUpd_o10, gUpd_o11, gUpd_o12, gUpd_o13, gUpd_o14, gUpd_o15, gUpd_o16, gUpd_o17, gUpd_o18, gIsO_o, Option.bind_some, List.getElem?_cons_zero, List.getElem?_cons_succ, List.length_cons, List.length_nil, List.set_cons_zero, List.set_cons_succ, gCat_nil, gCat_int, gCat_ref, if_pos, if_neg, Option.toList_some, Option.toList_none, List.cons_append, List.nil_append, B_nar, J1_nar, J0_nar, if_true, if_false, rd_wr_same, rd_wr_ne, true_and, and_true, B_0, B_1, not_true_eq_false, not_false_eq_true, rdM0, rdM1, rdM2, rdM3, rdM4, rdM5, rdM6, rdM7, rdM8, rdM9, rdM10, rdM11, rdM12, rset_at, rset_ne, rset_rset, w0M, wZ1, wZ2, wZ3, wZ4, wZ5, wZ6, wZ7, wZ8, wZ9, wZ10, wZ11, wZ12, f7_0, f7_1, f7_2, f7_3, f7_4, f7_5, f7_6, f2]
  | succ k ih =>
    intro i z4 hi
    have hok1 := (okB_t _).mp hok i (by omega)
    have hdi := dgl_in (K := K) (c := c) (x := i)
    have c1 := s171 (nat := nat) (d := d + 1) (w := w) (M := rset M 7 (cpR (gl K c) f 13 i)) hx (by rw [rset_ne (by decide)]; exact hL) hK hc (y := i) (by omega)
    obtain ⟨z4', this⟩ := ih (i + 1) (some (.int (J (dgl K c i : Nat)))) (by omega)
    refine ⟨z4', ?_⟩
    rw [← this]
    clear this
    rw [← cpR_s, gl_at, show ((i + 1 : Nat) : Int) = (i : Int) + 1 from rfl, e172_6]
    by_cases q : dgl K c i < (K 0 1).toNat
    · rw [if_pos q]
      have c2 := s142 (nat := nat) (d := d) (w := w) (M := rset M 7 (cpR (gl K c) f 13 i)) hx (by rw [rset_ne (by decide)]; exact hL) hK (r := 6) (Or.inl rfl) (by rw [show ((6 : Nat) : Int) = 6 from rfl, rset_ne (by decide)]; exact hR) hS (g := (dgl K c i : Nat)) (by omega)
      rw [B_neg (fun z => hok1 ⟨q, z⟩)] at c2
      simp (disch := first | omega | exact Nat.le_of_ble_eq_true rfl) only [e172_0, e172_1, e172_4, e172_5, e172_7, e172_8, e172_11, e172_12, e172_13, e172_16, e172_17, e172_18, e172_19, e172_22, e172_24, e172_26, e172_27, e172_30, e172_31, e172_32, e172_35, e172_36, e172_37, e172_40, e172_42, e172_45, e172_48, e172_49, e172_50, e172_51, e172_54, e172_56, e172_57, e172_58, e172_60, e172_61, e172_64, e172_65, e172_66, e172_69, e172_71, e172_74, e172_76, e172_77, e172_80, e172_84, e172_86, e172_87, e172_90, e172_91, e172_92, e172_95, e172_98, e172_101, e172_104, e172_105, e172_106, e172_109, e172_112, e172_115, J_add, J_sub, J_mul, J_neg, J_lt, J_le, J_eq, gArr_J, gAst_J, gSiz_J, gFld_o, gUpd_o0, gUpd_o1, gUpd_o2, gUpd_o3, gUpd_o4, gUpd_o5, gUpd_o6, gUpd_o7, gUpd_o8, gUpd_o9, gUpd_o10, gUpd_o11, gUpd_o12, gUpd_o13, gUpd_o14, gUpd_o15, gUpd_o16, gUpd_o17, gUpd_o18, gIsO_o, Option.bind_some, List.getElem?_cons_zero, List.getElem?_cons_succ, List.length_cons, List.length_nil, List.set_cons_zero, List.set_cons_succ, gCat_nil, gCat_int, gCat_ref, if_pos, if_neg, Option.toList_some, Option.toList_none, List.cons_append, List.nil_append, B_nar, J1_nar, J0_nar, if_true, if_false, rd_wr_same, rd_wr_ne, true_and, and_true, B_0, B_1, not_true_eq_false, not_false_eq_true, rdM0, rdM1, rdM2, rdM3, rdM4, rdM5, rdM6, rdM7, rdM8, rdM9, rdM10, rdM11, rdM12, rset_at, rset_ne, rset_rset, w0M, wZ1, wZ2, wZ3, wZ4, wZ5, wZ6, wZ7, wZ8, wZ9, wZ10, wZ11, wZ12, f7_0, f7_1, f7_2, f7_3, f7_4, f7_5, f7_6, f1, f2, c1, c2]
    · rw [if_neg q]
      simp (disch := first | omega | exact Nat.le_of_ble_eq_true rfl) only [e172_0, e172_1, e172_4, e172_5, e172_7, e172_8, e172_11, e172_12, e172_13, e172_16, e172_17, e172_18, e172_19, e172_22, e172_24, e172_26, e172_27, e172_30, e172_31, e172_32, e172_35, e172_36, e172_37, e172_40, e172_42, e172_45, e172_48, e172_49, e172_50, e172_51, e172_54, e172_56, e172_57, e172_58, e172_60, e172_61, e172_64, e172_65, e172_66, e172_69, e172_71, e172_74, e172_76, e172_77, e172_80, e172_84, e172_86, e172_87, e172_90, e172_91, e172_92, e172_95, e172_98, e172_101, e172_104, e172_105, e172_106, e172_109, e172_112, e172_115, J_add, J_sub, J_mul, J_neg, J_lt, J_le, J_eq, gArr_J, gAst_J, gSiz_J, gFld_o, gUpd_o0, gUpd_o1, gUpd_o2, gUpd_o3, gUpd_o4, gUpd_o5, gUpd_o6, gUpd_o7, gUpd_o8, gUpd_o9, gUpd_o10, gUpd_o11, gUpd_o12, gUpd_o13, gUpd_o14, gUpd_o15, gUpd_o16, gUpd_o17, gUpd_o18, gIsO_o, Option.bind_some, List.getElem?_cons_zero, List.getElem?_cons_succ, List.length_cons, List.length_nil, List.set_cons_zero, List.set_cons_succ, gCat_nil, gCat_int, gCat_ref, if_pos, if_neg, Option.toList_some, Option.toList_none, List.cons_append, List.nil_append, B_nar, J1_nar, J0_nar, if_true, if_false, rd_wr_same, rd_wr_ne, true_and, and_true, B_0, B_1, not_true_eq_false, not_false_eq_true, rdM0, rdM1, rdM2, rdM3, rdM4, rdM5, rdM6, rdM7, rdM8, rdM9, rdM10, rdM11, rdM12, rset_at, rset_ne, rset_rset, w0M, wZ1, wZ2, wZ3, wZ4, wZ5, wZ6, wZ7, wZ8, wZ9, wZ10, wZ11, wZ12, f7_0, f7_1, f7_2, f7_3, f7_4, f7_5, f7_6, f1, f2, c1]

theorem l172b {nat : gNat} {d : Nat} {w : gWd} {x : Nat} {M K : Lay} (hx : x + 12 < gSTR) (hL : mLaw K (M 5)) (hK : vK K) {S : Lay} (hR : mRow K S (M 6)) (hS : vS K S) {c : Nat} (hc : c < 100000) {N : Int} {f : Int → Int} {D : Nat} (hD : (D : Int) = K 0 2) (hok : ¬ okB K S c D = true) : ∀ (k i : Nat) (z4 : Option Value), i + k = D → okB K S c i = true → ∃ f', gX (gC nat (d + 2)) nat 172 6 [some (.ref x), some (.int (J N)), some (.int (J c)), some (.int (J (i : Nat))), z4] [] [] (putM w x (rset M 7 (cpR (gl K c) f 13 i))) = some (some (.int (J (-1))), putM w x (rset M 7 f')) := by
  obtain ⟨k0, k1, k2, k3, k4, kg, kd, kr⟩ := id hK
  obtain ⟨f0, f1, f2, f3, f4, fr, fg, fd⟩ := id hL
  intro k
  induction k with
  | zero =>
    intro i z4 hi hoi
    rw [Nat.add_zero] at hi
    rw [hi] at hoi
    exact absurd hoi hok
  | succ k ih =>
    intro i z4 hi hoi
    have hdi := dgl_in (K := K) (c := c) (x := i)
    have c1 := s171 (nat := nat) (d := d + 1) (w := w) (M := rset M 7 (cpR (gl K c) f 13 i)) hx (by rw [rset_ne (by decide)]; exact hL) hK hc (y := i) (by omega)
    have c2 := fun h => s142 (nat := nat) (d := d) (w := w) (M := rset M 7 (cpR (gl K c) f 13 i)) hx (by rw [rset_ne (by decide)]; exact hL) hK (r := 6) (Or.inl rfl) (by rw [show ((6 : Nat) : Int) = 6 from rfl, rset_ne (by decide)]; exact hR) hS (g := (dgl K c i : Nat)) h
    by_cases q : dgl K c i < (K 0 1).toNat ∧ cl K S (dgl K c i : Nat)
    · have q1 := q.1
      have c2 := c2 (by omega)
      rw [B_pos q.2] at c2
      refine ⟨cpR (gl K c) f 13 i, ?_⟩
      rw [e172_6]
      simp (disch := first | omega | exact Nat.le_of_ble_eq_true rfl) only [e172_0, e172_1, e172_4, e172_5, e172_7, e172_8, e172_11, e172_12, e172_13, e172_16, e172_17, e172_18, e172_19, e172_22, e172_24, e172_26, e172_27, e172_30, e172_31, e172_32, e172_35, e172_36, e172_37, e172_40, e172_42, e172_45, e172_48, e172_49, e172_50, e172_51, e172_54, e172_56, e172_57, e172_58, e172_60, e172_61, e172_64, e172_65, e172_66, e172_69, e172_71, e172_74, e172_76, e172_77, e172_80, e172_84, e172_86, e172_87, e172_90, e172_91, e172_92, e172_95, e172_98, e172_101, e172_104, e172_105, e172_106, e172_109, e172_112, e172_115, J_add, J_sub, J_mul, J_neg, J_lt, J_le, J_eq, gArr_J, gAst_J, gSiz_J, gFld_o, gUpd_o0, gUpd_o1, gUpd_o2, gUpd_o3, gUpd_o4, gUpd_o5, gUpd_o6, gUpd_o7, gUpd_o8, gUpd_o9, gUpd_o10, gUpd_o11, gUpd_o12, gUpd_o13, gUpd_o14, gUpd_o15, gUpd_o16, gUpd_o17, gUpd_o18, gIsO_o, Option.bind_some, List.getElem?_cons_zero, List.getElem?_cons_succ, List.length_cons, List.length_nil, List.set_cons_zero, List.set_cons_succ, gCat_nil, gCat_int, gCat_ref, if_pos, if_neg, Option.toList_some, Option.toList_none, List.cons_append, List.nil_append, B_nar, J1_nar, J0_nar, if_true, if_false, rd_wr_same, rd_wr_ne, true_and, and_true, B_0, B_1, not_true_eq_false, not_false_eq_true, rdM0, rdM1, rdM2, rdM3, rdM4, rdM5, rdM6, rdM7, rdM8, rdM9, rdM10, rdM11, rdM12, rset_at, rset_ne, rset_rset, w0M, wZ1, wZ2, wZ3, wZ4, wZ5, wZ6, wZ7, wZ8, wZ9, wZ10, wZ11, wZ12, f7_0, f7_1, f7_2, f7_3, f7_4, f7_5, f7_6, f1, f2, c1, c2]
    · have hoi2 : okB K S c (i + 1) = true := by
        rw [okB, hoi, decide_eq_true q]
        rfl
      obtain ⟨f', this⟩ := ih (i + 1) (some (.int (J (dgl K c i : Nat)))) (by omega) hoi2
      refine ⟨f', ?_⟩
      rw [← this]
      clear this
      rw [← cpR_s, gl_at, show ((i + 1 : Nat) : Int) = (i : Int) + 1 from rfl, e172_6]
      by_cases q1 : dgl K c i < (K 0 1).toNat
      · rw [if_pos q1]
        have c2 := c2 (by omega)
        rw [B_neg (fun z => q ⟨q1, z⟩)] at c2
        simp (disch := first | omega | exact Nat.le_of_ble_eq_true rfl) only [e172_0, e172_1, e172_4, e172_5, e172_7, e172_8, e172_11, e172_12, e172_13, e172_16, e172_17, e172_18, e172_19, e172_22, e172_24, e172_26, e172_27, e172_30, e172_31, e172_32, e172_35, e172_36, e172_37, e172_40, e172_42, e172_45, e172_48, e172_49, e172_50, e172_51, e172_54, e172_56, e172_57, e172_58, e172_60, e172_61, e172_64, e172_65, e172_66, e172_69, e172_71, e172_74, e172_76, e172_77, e172_80, e172_84, e172_86, e172_87, e172_90, e172_91, e172_92, e172_95, e172_98, e172_101, e172_104, e172_105, e172_106, e172_109, e172_112, e172_115, J_add, J_sub, J_mul, J_neg, J_lt, J_le, J_eq, gArr_J, gAst_J, gSiz_J, gFld_o, gUpd_o0, gUpd_o1, gUpd_o2, gUpd_o3, gUpd_o4, gUpd_o5, gUpd_o6, gUpd_o7, gUpd_o8, gUpd_o9, gUpd_o10, gUpd_o11, gUpd_o12, gUpd_o13, gUpd_o14, gUpd_o15, gUpd_o16, gUpd_o17, gUpd_o18, gIsO_o, Option.bind_some, List.getElem?_cons_zero, List.getElem?_cons_succ, List.length_cons, List.length_nil, List.set_cons_zero, List.set_cons_succ, gCat_nil, gCat_int, gCat_ref, if_pos, if_neg, Option.toList_some, Option.toList_none, List.cons_append, List.nil_append, B_nar, J1_nar, J0_nar, if_true, if_false, rd_wr_same, rd_wr_ne, true_and, and_true, B_0, B_1, not_true_eq_false, not_false_eq_true, rdM0, rdM1, rdM2, rdM3, rdM4, rdM5, rdM6, rdM7, rdM8, rdM9, rdM10, rdM11, rdM12, rset_at, rset_ne, rset_rset, w0M, wZ1, wZ2, wZ3, wZ4, wZ5, wZ6, wZ7, wZ8, wZ9, wZ10, wZ11, wZ12, f7_0, f7_1, f7_2, f7_3, f7_4, f7_5, f7_6, f1, f2, c1, c2]
      · rw [if_neg q1]
        simp (disch := first | omega | exact Nat.le_of_ble_eq_true rfl) only [e172_0, e172_1, e172_4, e172_5, e172_7, e172_8, e172_11, e172_12, e172_13, e172_16, e172_17, e172_18, e172_19, e172_22, e172_24, e172_26, e172_27, e172_30, e172_31, e172_32, e172_35, e172_36, e172_37, e172_40, e172_42, e172_45, e172_48, e172_49, e172_50, e172_51, e172_54, e172_56, e172_57, e172_58, e172_60, e172_61, e172_64, e172_65, e172_66, e172_69, e172_71, e172_74, e172_76, e172_77, e172_80, e172_84, e172_86, e172_87, e172_90, e172_91, e172_92, e172_95, e172_98, e172_101, e172_104, e172_105, e172_106, e172_109, e172_112, e172_115, J_add, J_sub, J_mul, J_neg, J_lt, J_le, J_eq, gArr_J, gAst_J, gSiz_J, gFld_o, gUpd_o0, gUpd_o1, gUpd_o2, gUpd_o3, gUpd_o4, gUpd_o5, gUpd_o6, gUpd_o7, gUpd_o8, gUpd_o9, gUpd_o10, gUpd_o11, gUpd_o12, gUpd_o13, gUpd_o14, gUpd_o15, gUpd_o16, gUpd_o17, gUpd_o18, gIsO_o, Option.bind_some, List.getElem?_cons_zero, List.getElem?_cons_succ, List.length_cons, List.length_nil, List.set_cons_zero, List.set_cons_succ, gCat_nil, gCat_int, gCat_ref, if_pos, if_neg, Option.toList_some, Option.toList_none, List.cons_append, List.nil_append, B_nar, J1_nar, J0_nar, if_true, if_false, rd_wr_same, rd_wr_ne, true_and, and_true, B_0, B_1, not_true_eq_false, not_false_eq_true, rdM0, rdM1, rdM2, rdM3, rdM4, rdM5, rdM6, rdM7, rdM8, rdM9, rdM10, rdM11, rdM12, rset_at, rset_ne, rset_rset, w0M, wZ1, wZ2, wZ3, wZ4, wZ5, wZ6, wZ7, wZ8, wZ9, wZ10, wZ11, wZ12, f7_0, f7_1, f7_2, f7_3, f7_4, f7_5, f7_6, f1, f2, c1]

theorem l172c {nat : gNat} {d : Nat} {w : gWd} {x : Nat} {M K : Lay} (hx : x + 12 < gSTR) (hL : mLaw K (M 5)) (hK : vK K) {A : Lay} (hA : vS K A) (hAh : A 0 0 < 1000000) {z2 z4 : Option Value} {N : Nat} (hN : N ≤ 24) : ∀ (k i : Nat) (f : Int → Int), i + k = N → mRow K (lives K A i) f → ∃ f', gX (gC nat (d + 5)) nat 172 85 [some (.ref x), some (.int (J N)), z2, some (.int (J i)), z4] [] [] (putM w x (rset M 7 f)) = some (some (.int (J (pop (cb K (lives K A N)) : Nat))), putM w x (rset M 7 f')) := by
  obtain ⟨k0, k1, k2, k3, k4, kg, kd, kr⟩ := id hK
  obtain ⟨f0, f1, f2, f3, f4, fr, fg, fd⟩ := id hL
  intro k
  induction k with
  | zero =>
    intro i f hi hf
    rw [Nat.add_zero] at hi
    subst hi
    have c1 := t143 (nat := nat) (d := d + 2) (w := w) (M := M) hx hL hK (r := 7) (Or.inr rfl) hf (vS_lives hK hA i)
    rw [show ((7 : Nat) : Int) = 7 from rfl] at c1
    have c2 := s124 (nat := nat) (d := d + 4) (w := putM w x (rset M 7 f)) (s := cb K (lives K A i)) (cbs_lt _ _ _ (by omega))
    refine ⟨f, ?_⟩
    rw [e172_85]
    simp (disch := first | omega | exact Nat.le_of_ble_eq_true rfl) only [e172_0, e172_1, e172_4, e172_5, e172_6, e172_7, e172_8, e172_11, e172_12, e172_13, e172_16, e172_17, e172_18, e172_19, e172_22, e172_24, e172_26, e172_27, e172_30, e172_31, e172_32, e172_35, e172_36, e172_37, e172_40, e172_42, e172_45, e172_48, e172_49, e172_50, e172_51, e172_54, e172_56, e172_57, e172_58, e172_60, e172_61, e172_64, e172_65, e172_66, e172_69, e172_71, e172_74, e172_76, e172_77, e172_80, e172_83, e172_84, e172_86, e172_87, e172_90, e172_91, e172_92, e172_95, e172_98, e172_101, e172_104, e172_105, e172_106, e172_109, e172_112, e172_115, J_add, J_sub, J_mul, J_neg, J_lt, J_le, J_eq, gArr_J, gAst_J, gSiz_J, gFld_o, gUpd_o0, gUpd_o1, gUpd_o2, gUpd_o3, gUpd_o4, gUpd_o5, gUpd_o6, gUpd_o7, gUpd_o8, gUpd_o9, gUpd_o10, gUpd_o11, gUpd_o12, gUpd_o13, gUpd_o14, gUpd_o15, gUpd_o16, gUpd_o17, gUpd_o18, gIsO_o, Option.bind_some, List.getElem?_cons_zero, List.getElem?_cons_succ, List.length_cons, List.length_nil, List.set_cons_zero, List.set_cons_succ, gCat_nil, gCat_int, gCat_ref, if_pos, if_neg, Option.toList_some, Option.toList_none, List.cons_append, List.nil_append, B_nar, J1_nar, J0_nar, if_true, if_false, rd_wr_same, rd_wr_ne, true_and, and_true, B_0, B_1, not_true_eq_false, not_false_eq_true, rdM0, rdM1, rdM2, rdM3, rdM4, rdM5, rdM6, rdM7, rdM8, rdM9, rdM10, rdM11, rdM12, rset_at, rset_ne, rset_rset, w0M, wZ1, wZ2, wZ3, wZ4, wZ5, wZ6, wZ7, wZ8, wZ9, wZ10, wZ11, wZ12, f7_0, f7_1, f7_2, f7_3, f7_4, f7_5, f7_6, c1, c2]
  | succ k ih =>
    intro i f hi hf
    have hh := lives_h K A i
    obtain ⟨f1, g1, g2⟩ := t149 (nat := nat) (d := d) (w := w) (M := M) hx hL hK (r := 7) (Or.inr rfl) hf (vS_lives hK hA i) (by omega)
    rw [show ((7 : Nat) : Int) = 7 from rfl] at g1
    obtain ⟨f', this⟩ := ih (i + 1) f1 (by omega) g2
    rw [show ((i + 1 : Nat) : Int) = (i : Int) + 1 from rfl] at this
    refine ⟨f', ?_⟩
    rw [← this, e172_85]
    simp (disch := first | omega | exact Nat.le_of_ble_eq_true rfl) only [e172_0, e172_1, e172_4, e172_5, e172_6, e172_7, e172_8, e172_11, e172_12, e172_13, e172_16, e172_17, e172_18, e172_19, e172_22, e172_24, e172_26, e172_27, e172_30, e172_31, e172_32, e172_35, e172_36, e172_37, e172_40, e172_42, e172_45, e172_48, e172_49, e172_50, e172_51, e172_54, e172_56, e172_57, e172_58, e172_60, e172_61, e172_64, e172_65, e172_66, e172_69, e172_71, e172_74, e172_76, e172_77, e172_80, e172_83, e172_84, e172_86, e172_87, e172_90, e172_91, e172_92, e172_95, e172_98, e172_101, e172_104, e172_105, e172_106, e172_109, e172_112, e172_115, J_add, J_sub, J_mul, J_neg, J_lt, J_le, J_eq, gArr_J, gAst_J, gSiz_J, gFld_o, gUpd_o0, gUpd_o1, gUpd_o2, gUpd_o3, gUpd_o4, gUpd_o5, gUpd_o6, gUpd_o7, gUpd_o8, gUpd_o9, gUpd_o10, gUpd_o11, gUpd_o12, gUpd_o13, gUpd_o14, gUpd_o15, gUpd_o16, gUpd_o17, gUpd_o18, gIsO_o, Option.bind_some, List.getElem?_cons_zero, List.getElem?_cons_succ, List.length_cons, List.length_nil, List.set_cons_zero, List.set_cons_succ, gCat_nil, gCat_int, gCat_ref, if_pos, if_neg, Option.toList_some, Option.toList_none, List.cons_append, List.nil_append, B_nar, J1_nar, J0_nar, if_true, if_false, rd_wr_same, rd_wr_ne, true_and, and_true, B_0, B_1, not_true_eq_false, not_false_eq_true, rdM0, rdM1, rdM2, rdM3, rdM4, rdM5, rdM6, rdM7, rdM8, rdM9, rdM10, rdM11, rdM12, rset_at, rset_ne, rset_rset, w0M, wZ1, wZ2, wZ3, wZ4, wZ5, wZ6, wZ7, wZ8, wZ9, wZ10, wZ11, wZ12, f7_0, f7_1, f7_2, f7_3, f7_4, f7_5, f7_6, g1]

theorem mRow_asg {K S : Lay} {f : Int → Int} (hK : vK K) (h : mRow K S f) {A : Int → Int} : mRow K (asg K S A) (cpR A f 13 (K 0 2).toNat) := by
  have k1 := hK.2.1
  have k2 := hK.2.2.1
  have e0 : asg K S A 0 0 = S 0 0 := if_neg (by omega)
  have e1 : ∀ g, asg K S A 1 g = S 1 g := fun g => if_neg (by omega)
  have e3 : ∀ g, asg K S A 3 g = S 3 g := fun g => if_neg (by omega)
  refine ⟨by rw [cpR_ne _ _ _ _ (by omega), e0]; exact h.1, fun g g1 g2 => by rw [cpR_ne _ _ _ _ (by omega), e1]; exact h.2.1 g g1 g2, fun y y1 y2 => ⟨?_, ?_⟩⟩
  · rw [cpR_ne _ _ _ _ (by omega), e3]
    exact (h.2.2 y y1 y2).1
  · rw [cpR_at _ _ _ _ (by omega), show 13 + y - 13 = y from by omega]
    have e2 : asg K S A 2 y = if y < K 0 2 then A y else -4 := if_pos ⟨rfl, y1, by omega⟩
    rw [e2, if_pos y2]

theorem s172 {nat : gNat} {d : Nat} {w : gWd} {x : Nat} {M K : Lay} (hx : x + 12 < gSTR) (hL : mLaw K (M 5)) (hK : vK K) {S : Lay} (hR : mRow K S (M 6)) (hS : vS K S) (hH : 0 ≤ S 0 0 ∧ S 0 0 < 1000000) {c N : Nat} (hc : c < 100000) (hN : N ≤ 24) : ∃ f', gC nat (d + 6) 172 [.ref x, .int (J N), .int (J c)] (putM w x M) = some (some (.int (J (byC K S N c))), putM w x (rset M 7 f')) := by
  obtain ⟨k0, k1, k2, k3, k4, kg, kd, kr⟩ := id hK
  obtain ⟨f0, f1, f2, f3, f4, fr, fg, fd⟩ := id hL
  have c1 := s164 (nat := nat) (d := d + 4) (w := w) (M := M) hx
  unfold byC
  by_cases q : okB K S c (K 0 2).toNat = true
  · rw [if_pos q]
    have hA := okB_okA hK q
    obtain ⟨z4', h1⟩ := l172a (nat := nat) (d := d + 3) (w := w) (M := M) hx hL hK hR hS hc (N := (N : Int)) (f := cpR (M 6) (M 7) 0 17) (D := (K 0 2).toNat) (by omega) q (K 0 2).toNat 0 none (by omega)
    have hf := mRow_asg hK (mRow_cp (g := M 7) hK hR) (A := gl K c)
    obtain ⟨f', h2⟩ := l172c (nat := nat) (d := d) (w := w) (M := M) hx hL hK (vS_asg hS hA) (by
      have e0 : asg K S (gl K c) 0 0 = S 0 0 := if_neg (by omega)
      rw [e0]
      exact hH.2) (z2 := some (.int (J c))) (z4 := z4') hN N 0 _ (by omega) hf
    rw [cpR_z, show ((0 : Nat) : Int) = 0 from rfl] at h1
    rw [show ((0 : Nat) : Int) = 0 from rfl] at h2
    refine ⟨f', ?_⟩
    rw [← h2, en172]
    simp (disch := first | omega | exact Nat.le_of_ble_eq_true rfl) only [e172_0, e172_1, e172_4, e172_5, e172_7, e172_8, e172_11, e172_12, e172_13, e172_16, e172_17, e172_18, e172_19, e172_22, e172_24, e172_26, e172_27, e172_30, e172_31, e172_32, e172_35, e172_36, e172_37, e172_40, e172_42, e172_45, e172_48, e172_49, e172_50, e172_51, e172_54, e172_56, e172_57, e172_58, e172_60, e172_61, e172_64, e172_65, e172_66, e172_69, e172_71, e172_74, e172_76, e172_77, e172_80, e172_84, e172_86, e172_87, e172_90, e172_91, e172_92, e172_95, e172_98, e172_101, e172_104, e172_105, e172_106, e172_109, e172_112, e172_115, J_add, J_sub, J_mul, J_neg, J_lt, J_le, J_eq, gArr_J, gAst_J, gSiz_J, gFld_o, gUpd_o0, gUpd_o1, gUpd_o2, gUpd_o3, gUpd_o4, gUpd_o5, gUpd_o6, gUpd_o7, gUpd_o8, gUpd_o9, gUpd_o10, gUpd_o11, gUpd_o12, gUpd_o13, gUpd_o14, gUpd_o15, gUpd_o16, gUpd_o17, gUpd_o18, gIsO_o, Option.bind_some, List.getElem?_cons_zero, List.getElem?_cons_succ, List.length_cons, List.length_nil, List.set_cons_zero, List.set_cons_succ, gCat_nil, gCat_int, gCat_ref, if_pos, if_neg, Option.toList_some, Option.toList_none, List.cons_append, List.nil_append, B_nar, J1_nar, J0_nar, if_true, if_false, rd_wr_same, rd_wr_ne, true_and, and_true, B_0, B_1, not_true_eq_false, not_false_eq_true, rdM0, rdM1, rdM2, rdM3, rdM4, rdM5, rdM6, rdM7, rdM8, rdM9, rdM10, rdM11, rdM12, rset_at, rset_ne, rset_rset, w0M, wZ1, wZ2, wZ3, wZ4, wZ5, wZ6, wZ7, wZ8, wZ9, wZ10, wZ11, wZ12, f7_0, f7_1, f7_2, f7_3, f7_4, f7_5, f7_6, c1, h1]
    rw [e172_83]
    simp (disch := first | omega | exact Nat.le_of_ble_eq_true rfl) only [e172_0, e172_1, e172_4, e172_5, e172_6, e172_7, e172_8, e172_11, e172_12, e172_13, e172_16, e172_17, e172_18, e172_19, e172_22, e172_24, e172_26, e172_27, e172_30, e172_31, e172_32, e172_35, e172_36, e172_37, e172_40, e172_42, e172_45, e172_48, e172_49, e172_50, e172_51, e172_54, e172_56, e172_57, e172_58, e172_60, e172_61, e172_64, e172_65, e172_66, e172_69, e172_71, e172_74, e172_76, e172_77, e172_80, e172_83, e172_84, e172_86, e172_87, e172_90, e172_91, e172_92, e172_95, e172_98, e172_101, e172_104, e172_105, e172_106, e172_109, e172_112, e172_115, J_add, J_sub, J_mul, J_neg, J_lt, J_le, J_eq, gArr_J, gAst_J, gSiz_J, gFld_o, gUpd_o0, gUpd_o1, gUpd_o2, gUpd_o3, gUpd_o4, gUpd_o5, gUpd_o6, gUpd_o7, gUpd_o8, gUpd_o9, gUpd_o10, gUpd_o11, gUpd_o12, gUpd_o13, gUpd_o14, gUpd_o15, gUpd_o16, gUpd_o17, gUpd_o18, gIsO_o, Option.bind_some, List.getElem?_cons_zero, List.getElem?_cons_succ, List.length_cons, List.length_nil, List.set_cons_zero, List.set_cons_succ, gCat_nil, gCat_int, gCat_ref, if_pos, if_neg, Option.toList_some, Option.toList_none, List.cons_append, List.nil_append, B_nar, J1_nar, J0_nar, if_true, if_false, rd_wr_same, rd_wr_ne, true_and, and_true, B_0, B_1, not_true_eq_false, not_false_eq_true, rdM0, rdM1, rdM2, rdM3, rdM4, rdM5, rdM6, rdM7, rdM8, rdM9, rdM10, rdM11, rdM12, rset_at, rset_ne, rset_rset, w0M, wZ1, wZ2, wZ3, wZ4, wZ5, wZ6, wZ7, wZ8, wZ9, wZ10, wZ11, wZ12, f7_0, f7_1, f7_2, f7_3, f7_4, f7_5, f7_6]
  · rw [if_neg q]
    obtain ⟨f', h1⟩ := l172b (nat := nat) (d := d + 3) (w := w) (M := M) hx hL hK hR hS hc (N := (N : Int)) (f := cpR (M 6) (M 7) 0 17) (D := (K 0 2).toNat) (by omega) q (K 0 2).toNat 0 none (by omega) rfl
    rw [cpR_z, show ((0 : Nat) : Int) = 0 from rfl] at h1
    refine ⟨f', ?_⟩
    rw [← h1, en172]
    simp (disch := first | omega | exact Nat.le_of_ble_eq_true rfl) only [e172_0, e172_1, e172_4, e172_5, e172_7, e172_8, e172_11, e172_12, e172_13, e172_16, e172_17, e172_18, e172_19, e172_22, e172_24, e172_26, e172_27, e172_30, e172_31, e172_32, e172_35, e172_36, e172_37, e172_40, e172_42, e172_45, e172_48, e172_49, e172_50, e172_51, e172_54, e172_56, e172_57, e172_58, e172_60, e172_61, e172_64, e172_65, e172_66, e172_69, e172_71, e172_74, e172_76, e172_77, e172_80, e172_84, e172_86, e172_87, e172_90, e172_91, e172_92, e172_95, e172_98, e172_101, e172_104, e172_105, e172_106, e172_109, e172_112, e172_115, J_add, J_sub, J_mul, J_neg, J_lt, J_le, J_eq, gArr_J, gAst_J, gSiz_J, gFld_o, gUpd_o0, gUpd_o1, gUpd_o2, gUpd_o3, gUpd_o4, gUpd_o5, gUpd_o6, gUpd_o7, gUpd_o8, gUpd_o9, gUpd_o10, gUpd_o11, gUpd_o12, gUpd_o13, gUpd_o14, gUpd_o15, gUpd_o16, gUpd_o17, gUpd_o18, gIsO_o, Option.bind_some, List.getElem?_cons_zero, List.getElem?_cons_succ, List.length_cons, List.length_nil, List.set_cons_zero, List.set_cons_succ, gCat_nil, gCat_int, gCat_ref, if_pos, if_neg, Option.toList_some, Option.toList_none, List.cons_append, List.nil_append, B_nar, J1_nar, J0_nar, if_true, if_false, rd_wr_same, rd_wr_ne, true_and, and_true, B_0, B_1, not_true_eq_false, not_false_eq_true, rdM0, rdM1, rdM2, rdM3, rdM4, rdM5, rdM6, rdM7, rdM8, rdM9, rdM10, rdM11, rdM12, rset_at, rset_ne, rset_rset, w0M, wZ1, wZ2, wZ3, wZ4, wZ5, wZ6, wZ7, wZ8, wZ9, wZ10, wZ11, wZ12, f7_0, f7_1, f7_2, f7_3, f7_4, f7_5, f7_6, c1]

theorem byC_in {K S : Lay} {n c : Nat} : -1 ≤ byC K S n c ∧ byC K S n c ≤ 8 := by
  unfold byC
  split
  · have : pop (cb K (lives K (asg K S (gl K c)) n)) ≤ 8 := popN_le _ 8
    omega
  · omega
theorem dfo_in {K S : Lay} {n : Nat} : ∀ c : Nat, (dfo K S n c).1 ≤ c ∧ -1 ≤ (dfo K S n c).2 ∧ (dfo K S n c).2 ≤ 8 := by
  intro c
  induction c with
  | zero => exact ⟨Nat.le_refl 0, by show (-1 : Int) ≤ -1 ∧ (-1 : Int) ≤ 8; decide⟩
  | succ c ih =>
    have := byC_in (K := K) (S := S) (n := n) (c := c)
    unfold dfo
    split
    · exact ⟨Nat.le_succ c, this⟩
    · omega
theorem l173a {nat : gNat} {d : Nat} {w : gWd} {x : Nat} {M K : Lay} (hx : x + 12 < gSTR) (hL : mLaw K (M 5)) (hK : vK K) {z1 z2 z5 z6 z7 : Option Value} {D : Nat} (hD : (D : Int) = K 0 2) : ∀ (k i : Nat), i + k = D → gX (gC nat d) nat 173 33 [some (.ref x), z1, z2, some (.int (J (((K 0 1).toNat + 1) ^ i : Nat))), some (.int (J i)), z5, z6, z7] [] [] (putM w x M) = gX (gC nat d) nat 173 61 [some (.ref x), z1, z2, some (.int (J (((K 0 1).toNat + 1) ^ D : Nat))), some (.int (J D)), z5, z6, z7] [] [] (putM w x M) := by
  obtain ⟨k0, k1, k2, k3, k4, kg, kd, kr⟩ := id hK
  obtain ⟨f0, f1, f2, f3, f4, fr, fg, fd⟩ := id hL
  have eB : (((K 0 1).toNat + 1 : Nat) : Int) = K 0 1 + 1 := by omega
  intro k
  induction k with
  | zero =>
    intro i hi
    rw [Nat.add_zero] at hi
    subst hi
    rw [e173_33]
    simp (disch := first | omega | exact Nat.le_of_ble_eq_true rfl) only [e173_0, e173_1, e173_2, e173_4, e173_7, e173_10, e173_11, e173_12, e173_13, e173_16, e173_17, e173_18, e173_19, e173_20, e173_23, e173_26, e173_27, e173_28, e173_29, e173_30, e173_31, e173_35, e173_36, e173_39, e173_40, e173_41, e173_44, e173_45, e173_46, e173_49, e173_50, e173_51, e173_52, e173_53, e173_54, e173_55, e173_58, e173_62, e173_64, e173_65, e173_67, e173_68, e173_72, e173_73, e173_76, e173_77, e173_78, e173_80, e173_83, e173_85, e173_87, e173_89, e173_92, e173_94, e173_97, e173_99, e173_101, e173_103, e173_105, e173_108, e173_110, e173_113, e173_115, e173_117, e173_120, e173_123, e173_124, e173_127, e173_129, e173_132, e173_133, e173_135, e173_136, e173_139, e173_140, e173_143, e173_144, e173_145, e173_148, e173_149, e173_151, e173_152, e173_155, e173_158, e173_160, J_add, J_sub, J_mul, J_neg, J_lt, J_le, J_eq, gArr_J, gAst_J, gSiz_J, gFld_o, gUpd_o0, gUpd_o1, gUpd_o2, gUpd_o3, gUpd_o4, gUpd_o5, gUpd_o6, gUpd_o7, gUpd_o8, gUpd_o9, gUpd_o10, gUpd_o11, gUpd_o12, gUpd_o13, gUpd_o14, gUpd_o15, gUpd_o16, gUpd_o17, gUpd_o18, gIsO_o, Option.bind_some, List.getElem?_cons_zero, List.getElem?_cons_succ, List.length_cons, List.length_nil, List.set_cons_zero, List.set_cons_succ, gCat_nil, gCat_int, gCat_ref, if_pos, if_neg, Option.toList_some, Option.toList_none, List.cons_append, List.nil_append, B_nar, J1_nar, J0_nar, if_true, if_false, rd_wr_same, rd_wr_ne, true_and, and_true, B_0, B_1, not_true_eq_false, not_false_eq_true, rdM0, rdM1, rdM2, rdM3, rdM4, rdM5, rdM6, rdM7, rdM8, rdM9, rdM10, rdM11, rdM12, rset_at, rset_ne, rset_rset, w0M, wZ1, wZ2, wZ3, wZ4, wZ5, wZ6, wZ7, wZ8, wZ9, wZ10, wZ11, wZ12, f7_0, f7_1, f7_2, f7_3, f7_4, f7_5, f7_6, f2]
  | succ k ih =>
    intro i hi
    have this := ih (i + 1) (by omega)
    rw [show ((i + 1 : Nat) : Int) = (i : Int) + 1 from rfl, Nat.pow_succ, Int.natCast_mul, eB] at this
    rw [e173_33]
    simp (disch := first | omega | exact Nat.le_of_ble_eq_true rfl) only [e173_0, e173_1, e173_2, e173_4, e173_7, e173_10, e173_11, e173_12, e173_13, e173_16, e173_17, e173_18, e173_19, e173_20, e173_23, e173_26, e173_27, e173_28, e173_29, e173_30, e173_31, e173_35, e173_36, e173_39, e173_40, e173_41, e173_44, e173_45, e173_46, e173_49, e173_50, e173_51, e173_52, e173_53, e173_54, e173_55, e173_58, e173_62, e173_64, e173_65, e173_67, e173_68, e173_72, e173_73, e173_76, e173_77, e173_78, e173_80, e173_83, e173_85, e173_87, e173_89, e173_92, e173_94, e173_97, e173_99, e173_101, e173_103, e173_105, e173_108, e173_110, e173_113, e173_115, e173_117, e173_120, e173_123, e173_124, e173_127, e173_129, e173_132, e173_133, e173_135, e173_136, e173_139, e173_140, e173_143, e173_144, e173_145, e173_148, e173_149, e173_151, e173_152, e173_155, e173_158, e173_160, J_add, J_sub, J_mul, J_neg, J_lt, J_le, J_eq, gArr_J, gAst_J, gSiz_J, gFld_o, gUpd_o0, gUpd_o1, gUpd_o2, gUpd_o3, gUpd_o4, gUpd_o5, gUpd_o6, gUpd_o7, gUpd_o8, gUpd_o9, gUpd_o10, gUpd_o11, gUpd_o12, gUpd_o13, gUpd_o14, gUpd_o15, gUpd_o16, gUpd_o17, gUpd_o18, gIsO_o, Option.bind_some, List.getElem?_cons_zero, List.getElem?_cons_succ, List.length_cons, List.length_nil, List.set_cons_zero, List.set_cons_succ, gCat_nil, gCat_int, gCat_ref, if_pos, if_neg, Option.toList_some, Option.toList_none, List.cons_append, List.nil_append, B_nar, J1_nar, J0_nar, if_true, if_false, rd_wr_same, rd_wr_ne, true_and, and_true, B_0, B_1, not_true_eq_false, not_false_eq_true, rdM0, rdM1, rdM2, rdM3, rdM4, rdM5, rdM6, rdM7, rdM8, rdM9, rdM10, rdM11, rdM12, rset_at, rset_ne, rset_rset, w0M, wZ1, wZ2, wZ3, wZ4, wZ5, wZ6, wZ7, wZ8, wZ9, wZ10, wZ11, wZ12, f7_0, f7_1, f7_2, f7_3, f7_4, f7_5, f7_6, f1, f2, this]

theorem l173b {nat : gNat} {d : Nat} {w : gWd} {x : Nat} {M K : Lay} (hx : x + 12 < gSTR) (hL : mLaw K (M 5)) (hK : vK K) {S : Lay} (hR : mRow K S (M 6)) (hS : vS K S) (hH : 0 ≤ S 0 0 ∧ S 0 0 < 1000000) {N : Nat} (hN : N ≤ 24) {y : Int} (hy : -1 ≤ y ∧ y < K 0 2) {P : Nat} (hP : P < 100000) : ∀ (j c : Nat) (f : Int → Int) (z7 : Option Value), c + j = P → ∃ f', gX (gC nat (d + 6)) nat 173 70 [some (.ref x), some (.int (J N)), some (.int (J y)), some (.int (J P)), some (.int (J ((dfo K S N c).1 : Nat))), some (.int (J (dfo K S N c).2)), some (.int (J c)), z7] [] [] (putM w x (rset M 7 f)) = some (some (.int (J (if y = -1 then (dfo K S N P).2 else gl K (dfo K S N P).1 y))), putM w x (rset M 7 f')) := by
  obtain ⟨k0, k1, k2, k3, k4, kg, kd, kr⟩ := id hK
  obtain ⟨f0, f1, f2, f3, f4, fr, fg, fd⟩ := id hL
  intro j
  induction j with
  | zero =>
    intro c f z7 hc
    rw [Nat.add_zero] at hc
    subst hc
    have hi := dfo_in (K := K) (S := S) (n := N) c
    refine ⟨f, ?_⟩
    rw [e173_70]
    by_cases q : y = -1
    · rw [if_pos q]
      simp (disch := first | omega | exact Nat.le_of_ble_eq_true rfl) only [e173_0, e173_1, e173_2, e173_4, e173_7, e173_10, e173_11, e173_12, e173_13, e173_16, e173_17, e173_18, e173_19, e173_20, e173_23, e173_26, e173_27, e173_28, e173_29, e173_30, e173_31, e173_35, e173_36, e173_39, e173_40, e173_41, e173_44, e173_45, e173_46, e173_49, e173_50, e173_51, e173_52, e173_53, e173_54, e173_55, e173_58, e173_61, e173_62, e173_64, e173_65, e173_67, e173_68, e173_72, e173_73, e173_76, e173_77, e173_78, e173_80, e173_83, e173_85, e173_87, e173_89, e173_92, e173_94, e173_97, e173_99, e173_101, e173_103, e173_105, e173_108, e173_110, e173_113, e173_115, e173_117, e173_120, e173_123, e173_124, e173_127, e173_129, e173_132, e173_133, e173_135, e173_136, e173_139, e173_140, e173_143, e173_144, e173_145, e173_148, e173_149, e173_151, e173_152, e173_155, e173_158, e173_160, J_add, J_sub, J_mul, J_neg, J_lt, J_le, J_eq, gArr_J, gAst_J, gSiz_J, gFld_o, gUpd_o0, gUpd_o1, gUpd_o2, gUpd_o3, gUpd_o4, gUpd_o5, gUpd_o6, gUpd_o7, gUpd_o8, gUpd_o9, gUpd_o10, gUpd_o11, gUpd_o12, gUpd_o13, gUpd_o14, gUpd_o15, gUpd_o16, gUpd_o17, gUpd_o18, gIsO_o, Option.bind_some, List.getElem?_cons_zero, List.getElem?_cons_succ, List.length_cons, List.length_nil, List.set_cons_zero, List.set_cons_succ, gCat_nil, gCat_int, gCat_ref, if_pos, if_neg, Option.toList_some, Option.toList_none, List.cons_append, List.nil_append, B_nar, J1_nar, J0_nar, if_true, if_false, rd_wr_same, rd_wr_ne, true_and, and_true, B_0, B_1, not_true_eq_false, not_false_eq_true, rdM0, rdM1, rdM2, rdM3, rdM4, rdM5, rdM6, rdM7, rdM8, rdM9, rdM10, rdM11, rdM12, rset_at, rset_ne, rset_rset, w0M, wZ1, wZ2, wZ3, wZ4, wZ5, wZ6, wZ7, wZ8, wZ9, wZ10, wZ11, wZ12, f7_0, f7_1, f7_2, f7_3, f7_4, f7_5, f7_6]
    · rw [if_neg q]
      have c1 := s171 (nat := nat) (d := d + 5) (w := w) (M := rset M 7 f) hx (by rw [rset_ne (by decide)]; exact hL) hK (c := (dfo K S N c).1) (y := y.toNat) (by omega) (by omega)
      rw [show ((y.toNat : Nat) : Int) = y from by omega] at c1
      have hdi := dgl_in (K := K) (c := (dfo K S N c).1) (x := y.toNat)
      have e : gl K (dfo K S N c).1 y = if dgl K (dfo K S N c).1 y.toNat < (K 0 1).toNat then ((dgl K (dfo K S N c).1 y.toNat : Nat) : Int) else -4 := rfl
      rw [e]
      by_cases q2 : dgl K (dfo K S N c).1 y.toNat < (K 0 1).toNat
      · rw [if_pos q2]
        simp (disch := first | omega | exact Nat.le_of_ble_eq_true rfl) only [e173_0, e173_1, e173_2, e173_4, e173_7, e173_10, e173_11, e173_12, e173_13, e173_16, e173_17, e173_18, e173_19, e173_20, e173_23, e173_26, e173_27, e173_28, e173_29, e173_30, e173_31, e173_35, e173_36, e173_39, e173_40, e173_41, e173_44, e173_45, e173_46, e173_49, e173_50, e173_51, e173_52, e173_53, e173_54, e173_55, e173_58, e173_61, e173_62, e173_64, e173_65, e173_67, e173_68, e173_72, e173_73, e173_76, e173_77, e173_78, e173_80, e173_83, e173_85, e173_87, e173_89, e173_92, e173_94, e173_97, e173_99, e173_101, e173_103, e173_105, e173_108, e173_110, e173_113, e173_115, e173_117, e173_120, e173_123, e173_124, e173_127, e173_129, e173_132, e173_133, e173_135, e173_136, e173_139, e173_140, e173_143, e173_144, e173_145, e173_148, e173_149, e173_151, e173_152, e173_155, e173_158, e173_160, J_add, J_sub, J_mul, J_neg, J_lt, J_le, J_eq, gArr_J, gAst_J, gSiz_J, gFld_o, gUpd_o0, gUpd_o1, gUpd_o2, gUpd_o3, gUpd_o4, gUpd_o5, gUpd_o6, gUpd_o7, gUpd_o8, gUpd_o9, gUpd_o10, gUpd_o11, gUpd_o12, gUpd_o13, gUpd_o14, gUpd_o15, gUpd_o16, gUpd_o17, gUpd_o18, gIsO_o, Option.bind_some, List.getElem?_cons_zero, List.getElem?_cons_succ, List.length_cons, List.length_nil, List.set_cons_zero, List.set_cons_succ, gCat_nil, gCat_int, gCat_ref, if_pos, if_neg, Option.toList_some, Option.toList_none, List.cons_append, List.nil_append, B_nar, J1_nar, J0_nar, if_true, if_false, rd_wr_same, rd_wr_ne, true_and, and_true, B_0, B_1, not_true_eq_false, not_false_eq_true, rdM0, rdM1, rdM2, rdM3, rdM4, rdM5, rdM6, rdM7, rdM8, rdM9, rdM10, rdM11, rdM12, rset_at, rset_ne, rset_rset, w0M, wZ1, wZ2, wZ3, wZ4, wZ5, wZ6, wZ7, wZ8, wZ9, wZ10, wZ11, wZ12, f7_0, f7_1, f7_2, f7_3, f7_4, f7_5, f7_6, f1, c1]
      · rw [if_neg q2]
        simp (disch := first | omega | exact Nat.le_of_ble_eq_true rfl) only [e173_0, e173_1, e173_2, e173_4, e173_7, e173_10, e173_11, e173_12, e173_13, e173_16, e173_17, e173_18, e173_19, e173_20, e173_23, e173_26, e173_27, e173_28, e173_29, e173_30, e173_31, e173_35, e173_36, e173_39, e173_40, e173_41, e173_44, e173_45, e173_46, e173_49, e173_50, e173_51, e173_52, e173_53, e173_54, e173_55, e173_58, e173_61, e173_62, e173_64, e173_65, e173_67, e173_68, e173_72, e173_73, e173_76, e173_77, e173_78, e173_80, e173_83, e173_85, e173_87, e173_89, e173_92, e173_94, e173_97, e173_99, e173_101, e173_103, e173_105, e173_108, e173_110, e173_113, e173_115, e173_117, e173_120, e173_123, e173_124, e173_127, e173_129, e173_132, e173_133, e173_135, e173_136, e173_139, e173_140, e173_143, e173_144, e173_145, e173_148, e173_149, e173_151, e173_152, e173_155, e173_158, e173_160, J_add, J_sub, J_mul, J_neg, J_lt, J_le, J_eq, gArr_J, gAst_J, gSiz_J, gFld_o, gUpd_o0, gUpd_o1, gUpd_o2, gUpd_o3, gUpd_o4, gUpd_o5, gUpd_o6, gUpd_o7, gUpd_o8, gUpd_o9, gUpd_o10, gUpd_o11, gUpd_o12, gUpd_o13, gUpd_o14, gUpd_o15, gUpd_o16, gUpd_o17, gUpd_o18, gIsO_o, Option.bind_some, List.getElem?_cons_zero, List.getElem?_cons_succ, List.length_cons, List.length_nil, List.set_cons_zero, List.set_cons_succ, gCat_nil, gCat_int, gCat_ref, if_pos, if_neg, Option.toList_some, Option.toList_none, List.cons_append, List.nil_append, B_nar, J1_nar, J0_nar, if_true, if_false, rd_wr_same, rd_wr_ne, true_and, and_true, B_0, B_1, not_true_eq_false, not_false_eq_true, rdM0, rdM1, rdM2, rdM3, rdM4, rdM5, rdM6, rdM7, rdM8, rdM9, rdM10, rdM11, rdM12, rset_at, rset_ne, rset_rset, w0M, wZ1, wZ2, wZ3, wZ4, wZ5, wZ6, wZ7, wZ8, wZ9, wZ10, wZ11, wZ12, f7_0, f7_1, f7_2, f7_3, f7_4, f7_5, f7_6, f1, c1]
  | succ j ih =>
    intro c f z7 hc
    have hi := dfo_in (K := K) (S := S) (n := N) c
    have hb := byC_in (K := K) (S := S) (n := N) (c := c)
    obtain ⟨f1, c1⟩ := s172 (nat := nat) (d := d) (w := w) (M := rset M 7 f) hx (by rw [rset_ne (by decide)]; exact hL) hK (by rw [rset_ne (by decide)]; exact hR) hS hH (c := c) (N := N) (by omega) hN
    rw [rset_rset] at c1
    obtain ⟨f', this⟩ := ih (c + 1) f1 (some (.int (J (byC K S N c)))) (by omega)
    rw [dfo, show ((c + 1 : Nat) : Int) = (c : Int) + 1 from rfl] at this
    refine ⟨f', ?_⟩
    rw [← this, e173_70]
    by_cases q : (dfo K S N c).2 < byC K S N c
    · rw [if_pos q]
      dsimp only
      simp (disch := first | omega | exact Nat.le_of_ble_eq_true rfl) only [e173_0, e173_1, e173_2, e173_4, e173_7, e173_10, e173_11, e173_12, e173_13, e173_16, e173_17, e173_18, e173_19, e173_20, e173_23, e173_26, e173_27, e173_28, e173_29, e173_30, e173_31, e173_35, e173_36, e173_39, e173_40, e173_41, e173_44, e173_45, e173_46, e173_49, e173_50, e173_51, e173_52, e173_53, e173_54, e173_55, e173_58, e173_61, e173_62, e173_64, e173_65, e173_67, e173_68, e173_72, e173_73, e173_76, e173_77, e173_78, e173_80, e173_83, e173_85, e173_87, e173_89, e173_92, e173_94, e173_97, e173_99, e173_101, e173_103, e173_105, e173_108, e173_110, e173_113, e173_115, e173_117, e173_120, e173_123, e173_124, e173_127, e173_129, e173_132, e173_133, e173_135, e173_136, e173_139, e173_140, e173_143, e173_144, e173_145, e173_148, e173_149, e173_151, e173_152, e173_155, e173_158, e173_160, J_add, J_sub, J_mul, J_neg, J_lt, J_le, J_eq, gArr_J, gAst_J, gSiz_J, gFld_o, gUpd_o0, gUpd_o1, gUpd_o2, gUpd_o3, gUpd_o4, gUpd_o5, gUpd_o6, gUpd_o7, gUpd_o8, gUpd_o9, gUpd_o10, gUpd_o11, gUpd_o12, gUpd_o13, gUpd_o14, gUpd_o15, gUpd_o16, gUpd_o17, gUpd_o18, gIsO_o, Option.bind_some, List.getElem?_cons_zero, List.getElem?_cons_succ, List.length_cons, List.length_nil, List.set_cons_zero, List.set_cons_succ, gCat_nil, gCat_int, gCat_ref, if_pos, if_neg, Option.toList_some, Option.toList_none, List.cons_append, List.nil_append, B_nar, J1_nar, J0_nar, if_true, if_false, rd_wr_same, rd_wr_ne, true_and, and_true, B_0, B_1, not_true_eq_false, not_false_eq_true, rdM0, rdM1, rdM2, rdM3, rdM4, rdM5, rdM6, rdM7, rdM8, rdM9, rdM10, rdM11, rdM12, rset_at, rset_ne, rset_rset, w0M, wZ1, wZ2, wZ3, wZ4, wZ5, wZ6, wZ7, wZ8, wZ9, wZ10, wZ11, wZ12, f7_0, f7_1, f7_2, f7_3, f7_4, f7_5, f7_6, c1]
    · rw [if_neg q]
      simp (disch := first | omega | exact Nat.le_of_ble_eq_true rfl) only [e173_0, e173_1, e173_2, e173_4, e173_7, e173_10, e173_11, e173_12, e173_13, e173_16, e173_17, e173_18, e173_19, e173_20, e173_23, e173_26, e173_27, e173_28, e173_29, e173_30, e173_31, e173_35, e173_36, e173_39, e173_40, e173_41, e173_44, e173_45, e173_46, e173_49, e173_50, e173_51, e173_52, e173_53, e173_54, e173_55, e173_58, e173_61, e173_62, e173_64, e173_65, e173_67, e173_68, e173_72, e173_73, e173_76, e173_77, e173_78, e173_80, e173_83, e173_85, e173_87, e173_89, e173_92, e173_94, e173_97, e173_99, e173_101, e173_103, e173_105, e173_108, e173_110, e173_113, e173_115, e173_117, e173_120, e173_123, e173_124, e173_127, e173_129, e173_132, e173_133, e173_135, e173_136, e173_139, e173_140, e173_143, e173_144, e173_145, e173_148, e173_149, e173_151, e173_152, e173_155, e173_158, e173_160, J_add, J_sub, J_mul, J_neg, J_lt, J_le, J_eq, gArr_J, gAst_J, gSiz_J, gFld_o, gUpd_o0, gUpd_o1, gUpd_o2, gUpd_o3, gUpd_o4, gUpd_o5, gUpd_o6, gUpd_o7, gUpd_o8, gUpd_o9, gUpd_o10, gUpd_o11, gUpd_o12, gUpd_o13, gUpd_o14, gUpd_o15, gUpd_o16, gUpd_o17, gUpd_o18, gIsO_o, Option.bind_some, List.getElem?_cons_zero, List.getElem?_cons_succ, List.length_cons, List.length_nil, List.set_cons_zero, List.set_cons_succ, gCat_nil, gCat_int, gCat_ref, if_pos, if_neg, Option.toList_some, Option.toList_none, List.cons_append, List.nil_append, B_nar, J1_nar, J0_nar, if_true, if_false, rd_wr_same, rd_wr_ne, true_and, and_true, B_0, B_1, not_true_eq_false, not_false_eq_true, rdM0, rdM1, rdM2, rdM3, rdM4, rdM5, rdM6, rdM7, rdM8, rdM9, rdM10, rdM11, rdM12, rset_at, rset_ne, rset_rset, w0M, wZ1, wZ2, wZ3, wZ4, wZ5, wZ6, wZ7, wZ8, wZ9, wZ10, wZ11, wZ12, f7_0, f7_1, f7_2, f7_3, f7_4, f7_5, f7_6, c1]


theorem z173 {nat : gNat} {d : Nat} {w : gWd} {x : Nat} {M K : Lay} (hx : x + 12 < gSTR) (hL : mLaw K (M 5)) (hK : vK K) {S : Lay} (hR : mRow K S (M 6)) (hS : vS K S) (hH : 0 ≤ S 0 0 ∧ S 0 0 < 1000000) {n y : Int} (h_n : -2147483648 ≤ n ∧ n < 2147483648) (h_y : -2147483648 ≤ y ∧ y < 2147483648) (B0 : Int → Int) : ∃ f', gC nat (d + 7) 173 [.ref x, .int (J n), .int (J y)] (putM w x M) = some (some (.int (J (aDea K S n y B0))), putM w x (rset M 7 f')) := by
  obtain ⟨k0, k1, k2, k3, k4, kg, kd, kr⟩ := id hK
  obtain ⟨f0, f1, f2, f3, f4, fr, fg, fd⟩ := id hL
  have c1 := s122 (nat := nat) (d := d + 5) (w := (putM w x M)) (v := n) (l := 1) (h := 24) (by omega) (by omega) (by omega)
  have c2 := s122 (nat := nat) (d := d + 5) (w := (putM w x M)) (v := y) (l := -1) (h := K 0 2 - 1) (by omega) (by omega) (by omega)
  rw [en173]
  unfold aDea
  by_cases q1 : 1 ≤ n ∧ n ≤ 24
  case neg =>
    rw [B_neg q1] at c1
    rw [if_neg (fun z => q1 z.1)]
    refine ⟨M 7, ?_⟩
    rw [rset_self]
    simp (disch := first | omega | exact Nat.le_of_ble_eq_true rfl) only [e173_0, e173_1, e173_2, e173_4, e173_7, e173_10, e173_11, e173_12, e173_13, e173_16, e173_17, e173_18, e173_19, e173_20, e173_23, e173_26, e173_27, e173_28, e173_29, e173_30, e173_31, e173_35, e173_36, e173_39, e173_40, e173_41, e173_44, e173_45, e173_46, e173_49, e173_50, e173_51, e173_52, e173_53, e173_54, e173_55, e173_58, e173_61, e173_62, e173_64, e173_65, e173_67, e173_68, e173_72, e173_73, e173_76, e173_77, e173_78, e173_80, e173_83, e173_85, e173_87, e173_89, e173_92, e173_94, e173_97, e173_99, e173_101, e173_103, e173_105, e173_108, e173_110, e173_113, e173_115, e173_117, e173_120, e173_123, e173_124, e173_127, e173_129, e173_132, e173_133, e173_135, e173_136, e173_139, e173_140, e173_143, e173_144, e173_145, e173_148, e173_149, e173_151, e173_152, e173_155, e173_158, e173_160, J_add, J_sub, J_mul, J_neg, J_lt, J_le, J_eq, gArr_J, gAst_J, gSiz_J, gFld_o, gUpd_o0, gUpd_o1, gUpd_o2, gUpd_o3, gUpd_o4, gUpd_o5, gUpd_o6, gUpd_o7, gUpd_o8, gUpd_o9, gUpd_o10, gUpd_o11, gUpd_o12, gUpd_o13, gUpd_o14, gUpd_o15, gUpd_o16, gUpd_o17, gUpd_o18, gIsO_o, Option.bind_some, List.getElem?_cons_zero, List.getElem?_cons_succ, List.length_cons, List.length_nil, List.set_cons_zero, List.set_cons_succ, gCat_nil, gCat_int, gCat_ref, if_pos, if_neg, Option.toList_some, Option.toList_none, List.cons_append, List.nil_append, B_nar, J1_nar, J0_nar, if_true, if_false, rd_wr_same, rd_wr_ne, true_and, and_true, B_0, B_1, not_true_eq_false, not_false_eq_true, rdM0, rdM1, rdM2, rdM3, rdM4, rdM5, rdM6, rdM7, rdM8, rdM9, rdM10, rdM11, rdM12, rset_at, rset_ne, rset_rset, w0M, wZ1, wZ2, wZ3, wZ4, wZ5, wZ6, wZ7, wZ8, wZ9, wZ10, wZ11, wZ12, f7_0, f7_1, f7_2, f7_3, f7_4, f7_5, f7_6, f2, c1]
  rw [B_pos q1] at c1
  by_cases q2 : -1 ≤ y ∧ y ≤ K 0 2 - 1
  case neg =>
    rw [B_neg q2] at c2
    rw [if_neg (fun z => q2 (by omega))]
    refine ⟨M 7, ?_⟩
    rw [rset_self]
    simp (disch := first | omega | exact Nat.le_of_ble_eq_true rfl) only [e173_0, e173_1, e173_2, e173_4, e173_7, e173_10, e173_11, e173_12, e173_13, e173_16, e173_17, e173_18, e173_19, e173_20, e173_23, e173_26, e173_27, e173_28, e173_29, e173_30, e173_31, e173_35, e173_36, e173_39, e173_40, e173_41, e173_44, e173_45, e173_46, e173_49, e173_50, e173_51, e173_52, e173_53, e173_54, e173_55, e173_58, e173_61, e173_62, e173_64, e173_65, e173_67, e173_68, e173_72, e173_73, e173_76, e173_77, e173_78, e173_80, e173_83, e173_85, e173_87, e173_89, e173_92, e173_94, e173_97, e173_99, e173_101, e173_103, e173_105, e173_108, e173_110, e173_113, e173_115, e173_117, e173_120, e173_123, e173_124, e173_127, e173_129, e173_132, e173_133, e173_135, e173_136, e173_139, e173_140, e173_143, e173_144, e173_145, e173_148, e173_149, e173_151, e173_152, e173_155, e173_158, e173_160, J_add, J_sub, J_mul, J_neg, J_lt, J_le, J_eq, gArr_J, gAst_J, gSiz_J, gFld_o, gUpd_o0, gUpd_o1, gUpd_o2, gUpd_o3, gUpd_o4, gUpd_o5, gUpd_o6, gUpd_o7, gUpd_o8, gUpd_o9, gUpd_o10, gUpd_o11, gUpd_o12, gUpd_o13, gUpd_o14, gUpd_o15, gUpd_o16, gUpd_o17, gUpd_o18, gIsO_o, Option.bind_some, List.getElem?_cons_zero, List.getElem?_cons_succ, List.length_cons, List.length_nil, List.set_cons_zero, List.set_cons_succ, gCat_nil, gCat_int, gCat_ref, if_pos, if_neg, Option.toList_some, Option.toList_none, List.cons_append, List.nil_append, B_nar, J1_nar, J0_nar, if_true, if_false, rd_wr_same, rd_wr_ne, true_and, and_true, B_0, B_1, not_true_eq_false, not_false_eq_true, rdM0, rdM1, rdM2, rdM3, rdM4, rdM5, rdM6, rdM7, rdM8, rdM9, rdM10, rdM11, rdM12, rset_at, rset_ne, rset_rset, w0M, wZ1, wZ2, wZ3, wZ4, wZ5, wZ6, wZ7, wZ8, wZ9, wZ10, wZ11, wZ12, f7_0, f7_1, f7_2, f7_3, f7_4, f7_5, f7_6, f2, c1, c2]
  rw [B_pos q2] at c2
  rw [if_pos (show deaI K n y from ⟨q1, by omega⟩)]
  have hsame := deal_same hK hS (n := n.toNat) (B0 := B0)
  obtain ⟨r1, r2, r3⟩ := dfo_rel (K := K) (S := S) (n := n.toNat) (B0 := B0) (((K 0 1).toNat + 1) ^ (K 0 2).toNat)
  have hge := du_ge (K := K) (cl := cb K S) (L := Lg K S n.toNat) (K 0 2).toNat 0 (pop (cb K S)) (fun _ => 0) (fun _ => 0) (-1, B0)
  rw [← dl_du _ _ _ _ _ _ (by omega), hsame.1, r1] at hge
  have r2 := r2 (by omega)
  have hP : ((K 0 1).toNat + 1) ^ (K 0 2).toNat < 100000 := by
    have h1 : ((K 0 1).toNat + 1) ^ (K 0 2).toNat ≤ 9 ^ (K 0 2).toNat := Nat.pow_le_pow_left (by omega) _
    have h2 : 9 ^ (K 0 2).toNat ≤ 9 ^ 4 := Nat.pow_le_pow_right (show 0 < 9 by decide) (by omega)
    have h3 : 9 ^ 4 = 6561 := rfl
    omega
  have ha := l173a (nat := nat) (d := d + 6) (w := w) hx hL hK (z1 := some (.int (J n))) (z2 := some (.int (J y))) (z5 := none) (z6 := none) (z7 := none) (D := (K 0 2).toNat) (by omega) (K 0 2).toNat 0 (by omega)
  rw [Nat.pow_zero, show ((1 : Nat) : Int) = 1 from rfl, show ((0 : Nat) : Int) = 0 from rfl] at ha
  obtain ⟨f', h⟩ := l173b (nat := nat) (d := d) (w := w) hx hL hK hR hS hH (N := n.toNat) (by omega) (y := y) (by omega) hP (((K 0 1).toNat + 1) ^ (K 0 2).toNat) 0 (M 7) none (by omega)
  rw [rset_self, dfo] at h
  dsimp only at h
  rw [show ((0 : Nat) : Int) = 0 from rfl, show ((n.toNat : Nat) : Int) = n from by omega] at h
  have eF : (if y = -1 then (deaR K S n B0).1 else (deaR K S n B0).2 y) = (if y = -1 then (dfo K S n.toNat (((K 0 1).toNat + 1) ^ (K 0 2).toNat)).2 else gl K (dfo K S n.toNat (((K 0 1).toNat + 1) ^ (K 0 2).toNat)).1 y) := by
    by_cases z : y = -1
    · rw [if_pos z, if_pos z, ← r1]
      exact hsame.1
    · rw [if_neg z, if_neg z, ← r2]
      exact hsame.2 y (by omega) (by omega)
  refine ⟨f', ?_⟩
  rw [eF, ← h]
  simp (disch := first | omega | exact Nat.le_of_ble_eq_true rfl) only [e173_0, e173_1, e173_2, e173_4, e173_7, e173_10, e173_11, e173_12, e173_13, e173_16, e173_17, e173_18, e173_19, e173_20, e173_23, e173_26, e173_27, e173_28, e173_29, e173_30, e173_31, e173_35, e173_36, e173_39, e173_40, e173_41, e173_44, e173_45, e173_46, e173_49, e173_50, e173_51, e173_52, e173_53, e173_54, e173_55, e173_58, e173_62, e173_64, e173_65, e173_67, e173_68, e173_72, e173_73, e173_76, e173_77, e173_78, e173_80, e173_83, e173_85, e173_87, e173_89, e173_92, e173_94, e173_97, e173_99, e173_101, e173_103, e173_105, e173_108, e173_110, e173_113, e173_115, e173_117, e173_120, e173_123, e173_124, e173_127, e173_129, e173_132, e173_133, e173_135, e173_136, e173_139, e173_140, e173_143, e173_144, e173_145, e173_148, e173_149, e173_151, e173_152, e173_155, e173_158, e173_160, J_add, J_sub, J_mul, J_neg, J_lt, J_le, J_eq, gArr_J, gAst_J, gSiz_J, gFld_o, gUpd_o0, gUpd_o1, gUpd_o2, gUpd_o3, gUpd_o4, gUpd_o5, gUpd_o6, gUpd_o7, gUpd_o8, gUpd_o9, gUpd_o10, gUpd_o11, gUpd_o12, gUpd_o13, gUpd_o14, gUpd_o15, gUpd_o16, gUpd_o17, gUpd_o18, gIsO_o, Option.bind_some, List.getElem?_cons_zero, List.getElem?_cons_succ, List.length_cons, List.length_nil, List.set_cons_zero, List.set_cons_succ, gCat_nil, gCat_int, gCat_ref, if_pos, if_neg, Option.toList_some, Option.toList_none, List.cons_append, List.nil_append, B_nar, J1_nar, J0_nar, if_true, if_false, rd_wr_same, rd_wr_ne, true_and, and_true, B_0, B_1, not_true_eq_false, not_false_eq_true, rdM0, rdM1, rdM2, rdM3, rdM4, rdM5, rdM6, rdM7, rdM8, rdM9, rdM10, rdM11, rdM12, rset_at, rset_ne, rset_rset, w0M, wZ1, wZ2, wZ3, wZ4, wZ5, wZ6, wZ7, wZ8, wZ9, wZ10, wZ11, wZ12, f7_0, f7_1, f7_2, f7_3, f7_4, f7_5, f7_6, f2, c1, c2, ha]
  rw [e173_61]
  simp (disch := first | omega | exact Nat.le_of_ble_eq_true rfl) only [e173_0, e173_1, e173_2, e173_4, e173_7, e173_10, e173_11, e173_12, e173_13, e173_16, e173_17, e173_18, e173_19, e173_20, e173_23, e173_26, e173_27, e173_28, e173_29, e173_30, e173_31, e173_35, e173_36, e173_39, e173_40, e173_41, e173_44, e173_45, e173_46, e173_49, e173_50, e173_51, e173_52, e173_53, e173_54, e173_55, e173_58, e173_61, e173_62, e173_64, e173_65, e173_67, e173_68, e173_72, e173_73, e173_76, e173_77, e173_78, e173_80, e173_83, e173_85, e173_87, e173_89, e173_92, e173_94, e173_97, e173_99, e173_101, e173_103, e173_105, e173_108, e173_110, e173_113, e173_115, e173_117, e173_120, e173_123, e173_124, e173_127, e173_129, e173_132, e173_133, e173_135, e173_136, e173_139, e173_140, e173_143, e173_144, e173_145, e173_148, e173_149, e173_151, e173_152, e173_155, e173_158, e173_160, J_add, J_sub, J_mul, J_neg, J_lt, J_le, J_eq, gArr_J, gAst_J, gSiz_J, gFld_o, gUpd_o0, gUpd_o1, gUpd_o2, gUpd_o3, gUpd_o4, gUpd_o5, gUpd_o6, gUpd_o7, gUpd_o8, gUpd_o9, gUpd_o10, gUpd_o11, gUpd_o12, gUpd_o13, gUpd_o14, gUpd_o15, gUpd_o16, gUpd_o17, gUpd_o18, gIsO_o, Option.bind_some, List.getElem?_cons_zero, List.getElem?_cons_succ, List.length_cons, List.length_nil, List.set_cons_zero, List.set_cons_succ, gCat_nil, gCat_int, gCat_ref, if_pos, if_neg, Option.toList_some, Option.toList_none, List.cons_append, List.nil_append, B_nar, J1_nar, J0_nar, if_true, if_false, rd_wr_same, rd_wr_ne, true_and, and_true, B_0, B_1, not_true_eq_false, not_false_eq_true, rdM0, rdM1, rdM2, rdM3, rdM4, rdM5, rdM6, rdM7, rdM8, rdM9, rdM10, rdM11, rdM12, rset_at, rset_ne, rset_rset, w0M, wZ1, wZ2, wZ3, wZ4, wZ5, wZ6, wZ7, wZ8, wZ9, wZ10, wZ11, wZ12, f7_0, f7_1, f7_2, f7_3, f7_4, f7_5, f7_6]
