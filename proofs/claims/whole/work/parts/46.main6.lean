abbrev labK (K : Lay) (s : Nat) : Int → Int := lab K s (K 0 1).toNat
theorem s9x {nat : gNat} {d : Nat} {w : gWd} (iH : isHp w 69) {K : Lay} (hK : vK K) {s : Nat} {x y : Int} (hx : 0 ≤ x ∧ x < 8) (hy : 0 ≤ y ∧ y < 8) : gC nat (d + 2) 9 [.ref 69, .int (J x), .int (J y)] (putH w 69 (labK K s)) = some (some (.int (B (labK K s x = labK K s y))), putH w 69 (labK K s)) := s9 iH hx hy (lab_inK hK s)
theorem isHp_putH {w : gWd} {f : Int → Int} (h : isHp w 69) : isHp (putH w 69 f) 69 := ⟨h.1, rdH0 h⟩
theorem putH_putH {w : gWd} {f g : Int → Int} : putH (putH w 69 f) 69 g = putH w 69 g := wr_wr
def aTog (K S : Lay) (a b : Int) : Int := if okP K a ∧ okP K b then (if labK K (cb K S) a = labK K (cb K S) b then 1 else 0) else -1

theorem x83 {nat : gNat} {d : Nat} {w : gWd} {p q : Nat} {X K S : Lay} {PT KT : Nat → Lay} (hX : isX w p q X K S PT KT) (hK : vK K) (hS : vS K S) (hH : 0 ≤ S 0 0 ∧ S 0 0 < 1000000) {a b : Int} (h_a : -2147483648 ≤ a ∧ a < 2147483648) (h_b : -2147483648 ≤ b ∧ b < 2147483648)  : ∃ w', gC nat (d + 25) 83 [.ref 0, .int (J a), .int (J b)] w = some (some (.int (J (aTog K S a b))), w') ∧ isX w' p q X K S PT KT ∧ (∀ z, 96 ≤ z → rd w' z = rd w z) ∧ w'.2 = w.2 := by
  rw [en83]
  obtain ⟨i0, iT, iR, iK, iQ, iS, inS, iTr, iP, iKp, iE, iH, iW, iD, hpq⟩ := id hX
  have c1 := s107 (nat := nat) (d := d + 22) (w := w) i0 iK hK (g := a) h_a
  have c2 := s107 (nat := nat) (d := d + 22) (w := w) i0 iK hK (g := b) h_b
  have hb := gSTR_big
  have k0 := hK.1
  unfold aTog
  by_cases h1 : okP K a
  rotate_left
  · rw [B_neg h1] at c1
    rw [if_neg (fun z => h1 z.1)]
    refine ⟨w, ?_, hX, fun _ _ => rfl, rfl⟩
    simp (disch := first | omega | exact Nat.le_of_ble_eq_true rfl) only [e83_0, e83_1, e83_2, e83_5, e83_8, e83_9, e83_10, e83_13, e83_16, e83_17, e83_18, e83_19, e83_22, e83_23, e83_26, e83_27, e83_30, e83_31, e83_34, e83_37, e83_40, e83_41, e83_44, e83_45, e83_46, e83_49, e83_52, J_add, J_sub, J_mul, J_neg, J_lt, J_le, J_eq, gArr_J, gAst_J, gSiz_J, gFld_o, gUpd_o0, gUpd_o1, gUpd_o2, gUpd_o3, gUpd_o4, gUpd_o5, gUpd_o6, gUpd_o7, gUpd_o8, gUpd_o9, gUpd_o10, gUpd_o11, gUpd_o12, gUpd_o13, gUpd_o14, gUpd_o15, gUpd_o16, gUpd_o17, gUpd_o18, gIsO_o, Option.bind_some, List.getElem?_cons_zero, List.getElem?_cons_succ, List.length_cons, List.length_nil, List.set_cons_zero, List.set_cons_succ, gCat_nil, gCat_int, gCat_ref, if_pos, if_neg, Option.toList_some, Option.toList_none, List.cons_append, List.nil_append, B_nar, J1_nar, J0_nar, if_true, if_false, rd_wr_same, rd_wr_ne, true_and, and_true, B_0, B_1, not_true_eq_false, not_false_eq_true, i0, c1]
  rw [B_pos h1] at c1
  by_cases h2 : okP K b
  rotate_left
  · rw [B_neg h2] at c2
    rw [if_neg (fun z => h2 z.2)]
    refine ⟨w, ?_, hX, fun _ _ => rfl, rfl⟩
    simp (disch := first | omega | exact Nat.le_of_ble_eq_true rfl) only [e83_0, e83_1, e83_2, e83_5, e83_8, e83_9, e83_10, e83_13, e83_16, e83_17, e83_18, e83_19, e83_22, e83_23, e83_26, e83_27, e83_30, e83_31, e83_34, e83_37, e83_40, e83_41, e83_44, e83_45, e83_46, e83_49, e83_52, J_add, J_sub, J_mul, J_neg, J_lt, J_le, J_eq, gArr_J, gAst_J, gSiz_J, gFld_o, gUpd_o0, gUpd_o1, gUpd_o2, gUpd_o3, gUpd_o4, gUpd_o5, gUpd_o6, gUpd_o7, gUpd_o8, gUpd_o9, gUpd_o10, gUpd_o11, gUpd_o12, gUpd_o13, gUpd_o14, gUpd_o15, gUpd_o16, gUpd_o17, gUpd_o18, gIsO_o, Option.bind_some, List.getElem?_cons_zero, List.getElem?_cons_succ, List.length_cons, List.length_nil, List.set_cons_zero, List.set_cons_succ, gCat_nil, gCat_int, gCat_ref, if_pos, if_neg, Option.toList_some, Option.toList_none, List.cons_append, List.nil_append, B_nar, J1_nar, J0_nar, if_true, if_false, rd_wr_same, rd_wr_ne, true_and, and_true, B_0, B_1, not_true_eq_false, not_false_eq_true, i0, c1, c2]
  rw [B_pos h2] at c2
  rw [if_pos ⟨h1, h2⟩]
  have c3 := s63x (nat := nat) (d := d + 21) hX hK hS
  have c4 := s7x (nat := nat) (d := d + 21) hX hK (cb_lt hK S)
  have c5 := s9x (nat := nat) (d := d + 22) iH.1 hK (s := cb K S) (x := a) (y := b) (by omega) (by omega)
  have c6 := s116 (nat := nat) (d := d + 23) (w := putH w 69 (labK K (cb K S))) (p := labK K (cb K S) a = labK K (cb K S) b)
  have f0 : rd (putH w 69 (labK K (cb K S))) 0 = _ := (rdHn (by omega)).trans i0
  have f1 : rd (putH w 69 (labK K (cb K S))) 69 = _ := rdH0 iH.1
  refine ⟨_, ?_, isX_hp hX (lab_far K (cb K S) (K 0 1).toNat), fun z hz => rdHn (by omega), rfl⟩
  rw [← B_J]
  simp (disch := first | omega | exact Nat.le_of_ble_eq_true rfl) only [e83_0, e83_1, e83_2, e83_5, e83_8, e83_9, e83_10, e83_13, e83_16, e83_17, e83_18, e83_19, e83_22, e83_23, e83_26, e83_27, e83_30, e83_31, e83_34, e83_37, e83_40, e83_41, e83_44, e83_45, e83_46, e83_49, e83_52, J_add, J_sub, J_mul, J_neg, J_lt, J_le, J_eq, gArr_J, gAst_J, gSiz_J, gFld_o, gUpd_o0, gUpd_o1, gUpd_o2, gUpd_o3, gUpd_o4, gUpd_o5, gUpd_o6, gUpd_o7, gUpd_o8, gUpd_o9, gUpd_o10, gUpd_o11, gUpd_o12, gUpd_o13, gUpd_o14, gUpd_o15, gUpd_o16, gUpd_o17, gUpd_o18, gIsO_o, Option.bind_some, List.getElem?_cons_zero, List.getElem?_cons_succ, List.length_cons, List.length_nil, List.set_cons_zero, List.set_cons_succ, gCat_nil, gCat_int, gCat_ref, if_pos, if_neg, Option.toList_some, Option.toList_none, List.cons_append, List.nil_append, B_nar, J1_nar, J0_nar, if_true, if_false, rd_wr_same, rd_wr_ne, true_and, and_true, B_0, B_1, not_true_eq_false, not_false_eq_true, i0, iS.2.1, iH.1.2, c1, c2, c3, c4, c5, c6, f0, f1]

def aCnt (X K S : Lay) (u : Int) : Int := if u = 0 then K 0 0 else if u = 1 then K 0 1 else if u = 2 then K 0 2 else if u = 3 then S 0 0 else if u = 4 then (pop (cb K S) : Nat) else if u = 5 then ast S (K 0 1).toNat else if u = 6 then snt S (K 0 2).toNat else if u = 7 then hps (labK K (cb K S)) (K 0 0).toNat else if u = 8 then X 0 4 else if u = 9 then X 0 1 else if u = 10 then X 0 3 else if u = 11 then X 0 0 else -1

theorem x103 {nat : gNat} {d : Nat} {w : gWd} {p q : Nat} {X K S : Lay} {PT KT : Nat → Lay} (hX : isX w p q X K S PT KT) (hK : vK K) (hS : vS K S) (hH : 0 ≤ S 0 0 ∧ S 0 0 < 1000000) {u : Int} (h_u : -2147483648 ≤ u ∧ u < 2147483648)  : ∃ w', gC nat (d + 25) 103 [.ref 0, .int (J u)] w = some (some (.int (J (aCnt X K S u))), w') ∧ isX w' p q X K S PT KT ∧ (∀ z, 96 ≤ z → rd w' z = rd w z) ∧ w'.2 = w.2 := by
  rw [en103]
  obtain ⟨i0, iT, iR, iK, iQ, iS, inS, iTr, iP, iKp, iE, iH, iW, iD, hpq⟩ := id hX
  have hb := gSTR_big
  have k1 := hK.2.1
  have c3 := s63x (nat := nat) (d := d + 21) hX hK hS
  have c4 := s192 (nat := nat) (d := d + 23) (w := w) (cb_lt hK S)
  have c5 := s64 (nat := nat) (d := d + 22) (w := w) (a := 12) (S := S) iK hK (by omega) iS.1
  have c6 := s65 (nat := nat) (d := d + 22) (w := w) (a := 12) (S := S) iK hK (by omega) iS.1 hS
  rw [putS_self iS] at c5 c6
  have c7 := s7x (nat := nat) (d := d + 21) hX hK (cb_lt hK S)
  have c8 := s12 (nat := nat) (d := d + 21) (w := w) (h := 69) (f := labK K (cb K S)) iK hK (by omega) iH.1 (lab_inK hK _)
  have f0 : rd (putH w 69 (labK K (cb K S))) 0 = _ := (rdHn (by omega)).trans i0
  have f1 : rd (putH w 69 (labK K (cb K S))) 69 = _ := rdH0 iH.1
  obtain ⟨st, lo, bp, bq, A4, e0, -⟩ := iE
  unfold aCnt
  by_cases h0 : u = 0
  · rw [if_pos h0]
    subst h0
    refine ⟨w, ?_, hX, fun _ _ => rfl, rfl⟩
    simp (disch := first | omega | exact Nat.le_of_ble_eq_true rfl) only [e103_0, e103_1s0, e103_1s1, e103_1s2, e103_1s3, e103_1s4, e103_1s5, e103_1s6, e103_1s7, e103_1s8, e103_1s9, e103_1s10, e103_1s11, e103_1d, e103_64, e103_65, e103_68, e103_71, e103_72, e103_73, e103_76, e103_79, e103_80, e103_81, e103_84, e103_87, e103_88, e103_89, e103_92, e103_95, e103_96, e103_97, e103_100, e103_101, e103_104, e103_107, e103_110, e103_111, e103_112, e103_115, e103_116, e103_119, e103_122, e103_123, e103_124, e103_127, e103_128, e103_131, e103_134, e103_135, e103_136, e103_139, e103_140, e103_143, e103_144, e103_147, e103_148, e103_151, e103_154, e103_157, e103_158, e103_161, e103_162, e103_165, e103_168, e103_169, e103_170, e103_173, e103_176, e103_177, e103_178, e103_181, e103_184, e103_185, e103_186, e103_189, e103_192, e103_193, e103_194, e103_197, e103_198, e103_199, J_add, J_sub, J_mul, J_neg, J_lt, J_le, J_eq, gArr_J, gAst_J, gSiz_J, gFld_o, gUpd_o0, gUpd_o1, gUpd_o2, gUpd_o3, gUpd_o4, gUpd_o5, gUpd_o6, gUpd_o7, gUpd_o8, gUpd_o9, gUpd_o10, gUpd_o11, gUpd_o12, gUpd_o13, gUpd_o14, gUpd_o15, gUpd_o16, gUpd_o17, gUpd_o18, gIsO_o, Option.bind_some, List.getElem?_cons_zero, List.getElem?_cons_succ, List.length_cons, List.length_nil, List.set_cons_zero, List.set_cons_succ, gCat_nil, gCat_int, gCat_ref, if_pos, if_neg, Option.toList_some, Option.toList_none, List.cons_append, List.nil_append, B_nar, J1_nar, J0_nar, if_true, if_false, rd_wr_same, rd_wr_ne, true_and, and_true, B_0, B_1, not_true_eq_false, not_false_eq_true, i0, iK.2.1, iS.2.1, iH.1.2, iP.2.1, iKp.2.1, e0, c3, c4, c5, c6, c7, c8, f0, f1]
  rw [if_neg h0]
  by_cases h1 : u = 1
  · rw [if_pos h1]
    subst h1
    refine ⟨w, ?_, hX, fun _ _ => rfl, rfl⟩
    simp (disch := first | omega | exact Nat.le_of_ble_eq_true rfl) only [e103_0, e103_1s0, e103_1s1, e103_1s2, e103_1s3, e103_1s4, e103_1s5, e103_1s6, e103_1s7, e103_1s8, e103_1s9, e103_1s10, e103_1s11, e103_1d, e103_64, e103_65, e103_68, e103_71, e103_72, e103_73, e103_76, e103_79, e103_80, e103_81, e103_84, e103_87, e103_88, e103_89, e103_92, e103_95, e103_96, e103_97, e103_100, e103_101, e103_104, e103_107, e103_110, e103_111, e103_112, e103_115, e103_116, e103_119, e103_122, e103_123, e103_124, e103_127, e103_128, e103_131, e103_134, e103_135, e103_136, e103_139, e103_140, e103_143, e103_144, e103_147, e103_148, e103_151, e103_154, e103_157, e103_158, e103_161, e103_162, e103_165, e103_168, e103_169, e103_170, e103_173, e103_176, e103_177, e103_178, e103_181, e103_184, e103_185, e103_186, e103_189, e103_192, e103_193, e103_194, e103_197, e103_198, e103_199, J_add, J_sub, J_mul, J_neg, J_lt, J_le, J_eq, gArr_J, gAst_J, gSiz_J, gFld_o, gUpd_o0, gUpd_o1, gUpd_o2, gUpd_o3, gUpd_o4, gUpd_o5, gUpd_o6, gUpd_o7, gUpd_o8, gUpd_o9, gUpd_o10, gUpd_o11, gUpd_o12, gUpd_o13, gUpd_o14, gUpd_o15, gUpd_o16, gUpd_o17, gUpd_o18, gIsO_o, Option.bind_some, List.getElem?_cons_zero, List.getElem?_cons_succ, List.length_cons, List.length_nil, List.set_cons_zero, List.set_cons_succ, gCat_nil, gCat_int, gCat_ref, if_pos, if_neg, Option.toList_some, Option.toList_none, List.cons_append, List.nil_append, B_nar, J1_nar, J0_nar, if_true, if_false, rd_wr_same, rd_wr_ne, true_and, and_true, B_0, B_1, not_true_eq_false, not_false_eq_true, i0, iK.2.1, iS.2.1, iH.1.2, iP.2.1, iKp.2.1, e0, c3, c4, c5, c6, c7, c8, f0, f1]
  rw [if_neg h1]
  by_cases h2 : u = 2
  · rw [if_pos h2]
    subst h2
    refine ⟨w, ?_, hX, fun _ _ => rfl, rfl⟩
    simp (disch := first | omega | exact Nat.le_of_ble_eq_true rfl) only [e103_0, e103_1s0, e103_1s1, e103_1s2, e103_1s3, e103_1s4, e103_1s5, e103_1s6, e103_1s7, e103_1s8, e103_1s9, e103_1s10, e103_1s11, e103_1d, e103_64, e103_65, e103_68, e103_71, e103_72, e103_73, e103_76, e103_79, e103_80, e103_81, e103_84, e103_87, e103_88, e103_89, e103_92, e103_95, e103_96, e103_97, e103_100, e103_101, e103_104, e103_107, e103_110, e103_111, e103_112, e103_115, e103_116, e103_119, e103_122, e103_123, e103_124, e103_127, e103_128, e103_131, e103_134, e103_135, e103_136, e103_139, e103_140, e103_143, e103_144, e103_147, e103_148, e103_151, e103_154, e103_157, e103_158, e103_161, e103_162, e103_165, e103_168, e103_169, e103_170, e103_173, e103_176, e103_177, e103_178, e103_181, e103_184, e103_185, e103_186, e103_189, e103_192, e103_193, e103_194, e103_197, e103_198, e103_199, J_add, J_sub, J_mul, J_neg, J_lt, J_le, J_eq, gArr_J, gAst_J, gSiz_J, gFld_o, gUpd_o0, gUpd_o1, gUpd_o2, gUpd_o3, gUpd_o4, gUpd_o5, gUpd_o6, gUpd_o7, gUpd_o8, gUpd_o9, gUpd_o10, gUpd_o11, gUpd_o12, gUpd_o13, gUpd_o14, gUpd_o15, gUpd_o16, gUpd_o17, gUpd_o18, gIsO_o, Option.bind_some, List.getElem?_cons_zero, List.getElem?_cons_succ, List.length_cons, List.length_nil, List.set_cons_zero, List.set_cons_succ, gCat_nil, gCat_int, gCat_ref, if_pos, if_neg, Option.toList_some, Option.toList_none, List.cons_append, List.nil_append, B_nar, J1_nar, J0_nar, if_true, if_false, rd_wr_same, rd_wr_ne, true_and, and_true, B_0, B_1, not_true_eq_false, not_false_eq_true, i0, iK.2.1, iS.2.1, iH.1.2, iP.2.1, iKp.2.1, e0, c3, c4, c5, c6, c7, c8, f0, f1]
  rw [if_neg h2]
  by_cases h3 : u = 3
  · rw [if_pos h3]
    subst h3
    refine ⟨w, ?_, hX, fun _ _ => rfl, rfl⟩
    simp (disch := first | omega | exact Nat.le_of_ble_eq_true rfl) only [e103_0, e103_1s0, e103_1s1, e103_1s2, e103_1s3, e103_1s4, e103_1s5, e103_1s6, e103_1s7, e103_1s8, e103_1s9, e103_1s10, e103_1s11, e103_1d, e103_64, e103_65, e103_68, e103_71, e103_72, e103_73, e103_76, e103_79, e103_80, e103_81, e103_84, e103_87, e103_88, e103_89, e103_92, e103_95, e103_96, e103_97, e103_100, e103_101, e103_104, e103_107, e103_110, e103_111, e103_112, e103_115, e103_116, e103_119, e103_122, e103_123, e103_124, e103_127, e103_128, e103_131, e103_134, e103_135, e103_136, e103_139, e103_140, e103_143, e103_144, e103_147, e103_148, e103_151, e103_154, e103_157, e103_158, e103_161, e103_162, e103_165, e103_168, e103_169, e103_170, e103_173, e103_176, e103_177, e103_178, e103_181, e103_184, e103_185, e103_186, e103_189, e103_192, e103_193, e103_194, e103_197, e103_198, e103_199, J_add, J_sub, J_mul, J_neg, J_lt, J_le, J_eq, gArr_J, gAst_J, gSiz_J, gFld_o, gUpd_o0, gUpd_o1, gUpd_o2, gUpd_o3, gUpd_o4, gUpd_o5, gUpd_o6, gUpd_o7, gUpd_o8, gUpd_o9, gUpd_o10, gUpd_o11, gUpd_o12, gUpd_o13, gUpd_o14, gUpd_o15, gUpd_o16, gUpd_o17, gUpd_o18, gIsO_o, Option.bind_some, List.getElem?_cons_zero, List.getElem?_cons_succ, List.length_cons, List.length_nil, List.set_cons_zero, List.set_cons_succ, gCat_nil, gCat_int, gCat_ref, if_pos, if_neg, Option.toList_some, Option.toList_none, List.cons_append, List.nil_append, B_nar, J1_nar, J0_nar, if_true, if_false, rd_wr_same, rd_wr_ne, true_and, and_true, B_0, B_1, not_true_eq_false, not_false_eq_true, i0, iK.2.1, iS.2.1, iH.1.2, iP.2.1, iKp.2.1, e0, c3, c4, c5, c6, c7, c8, f0, f1]
  rw [if_neg h3]
  by_cases h4 : u = 4
  · rw [if_pos h4]
    subst h4
    refine ⟨w, ?_, hX, fun _ _ => rfl, rfl⟩
    simp (disch := first | omega | exact Nat.le_of_ble_eq_true rfl) only [e103_0, e103_1s0, e103_1s1, e103_1s2, e103_1s3, e103_1s4, e103_1s5, e103_1s6, e103_1s7, e103_1s8, e103_1s9, e103_1s10, e103_1s11, e103_1d, e103_64, e103_65, e103_68, e103_71, e103_72, e103_73, e103_76, e103_79, e103_80, e103_81, e103_84, e103_87, e103_88, e103_89, e103_92, e103_95, e103_96, e103_97, e103_100, e103_101, e103_104, e103_107, e103_110, e103_111, e103_112, e103_115, e103_116, e103_119, e103_122, e103_123, e103_124, e103_127, e103_128, e103_131, e103_134, e103_135, e103_136, e103_139, e103_140, e103_143, e103_144, e103_147, e103_148, e103_151, e103_154, e103_157, e103_158, e103_161, e103_162, e103_165, e103_168, e103_169, e103_170, e103_173, e103_176, e103_177, e103_178, e103_181, e103_184, e103_185, e103_186, e103_189, e103_192, e103_193, e103_194, e103_197, e103_198, e103_199, J_add, J_sub, J_mul, J_neg, J_lt, J_le, J_eq, gArr_J, gAst_J, gSiz_J, gFld_o, gUpd_o0, gUpd_o1, gUpd_o2, gUpd_o3, gUpd_o4, gUpd_o5, gUpd_o6, gUpd_o7, gUpd_o8, gUpd_o9, gUpd_o10, gUpd_o11, gUpd_o12, gUpd_o13, gUpd_o14, gUpd_o15, gUpd_o16, gUpd_o17, gUpd_o18, gIsO_o, Option.bind_some, List.getElem?_cons_zero, List.getElem?_cons_succ, List.length_cons, List.length_nil, List.set_cons_zero, List.set_cons_succ, gCat_nil, gCat_int, gCat_ref, if_pos, if_neg, Option.toList_some, Option.toList_none, List.cons_append, List.nil_append, B_nar, J1_nar, J0_nar, if_true, if_false, rd_wr_same, rd_wr_ne, true_and, and_true, B_0, B_1, not_true_eq_false, not_false_eq_true, i0, iK.2.1, iS.2.1, iH.1.2, iP.2.1, iKp.2.1, e0, c3, c4, c5, c6, c7, c8, f0, f1]
  rw [if_neg h4]
  by_cases h5 : u = 5
  · rw [if_pos h5]
    subst h5
    refine ⟨w, ?_, hX, fun _ _ => rfl, rfl⟩
    simp (disch := first | omega | exact Nat.le_of_ble_eq_true rfl) only [e103_0, e103_1s0, e103_1s1, e103_1s2, e103_1s3, e103_1s4, e103_1s5, e103_1s6, e103_1s7, e103_1s8, e103_1s9, e103_1s10, e103_1s11, e103_1d, e103_64, e103_65, e103_68, e103_71, e103_72, e103_73, e103_76, e103_79, e103_80, e103_81, e103_84, e103_87, e103_88, e103_89, e103_92, e103_95, e103_96, e103_97, e103_100, e103_101, e103_104, e103_107, e103_110, e103_111, e103_112, e103_115, e103_116, e103_119, e103_122, e103_123, e103_124, e103_127, e103_128, e103_131, e103_134, e103_135, e103_136, e103_139, e103_140, e103_143, e103_144, e103_147, e103_148, e103_151, e103_154, e103_157, e103_158, e103_161, e103_162, e103_165, e103_168, e103_169, e103_170, e103_173, e103_176, e103_177, e103_178, e103_181, e103_184, e103_185, e103_186, e103_189, e103_192, e103_193, e103_194, e103_197, e103_198, e103_199, J_add, J_sub, J_mul, J_neg, J_lt, J_le, J_eq, gArr_J, gAst_J, gSiz_J, gFld_o, gUpd_o0, gUpd_o1, gUpd_o2, gUpd_o3, gUpd_o4, gUpd_o5, gUpd_o6, gUpd_o7, gUpd_o8, gUpd_o9, gUpd_o10, gUpd_o11, gUpd_o12, gUpd_o13, gUpd_o14, gUpd_o15, gUpd_o16, gUpd_o17, gUpd_o18, gIsO_o, Option.bind_some, List.getElem?_cons_zero, List.getElem?_cons_succ, List.length_cons, List.length_nil, List.set_cons_zero, List.set_cons_succ, gCat_nil, gCat_int, gCat_ref, if_pos, if_neg, Option.toList_some, Option.toList_none, List.cons_append, List.nil_append, B_nar, J1_nar, J0_nar, if_true, if_false, rd_wr_same, rd_wr_ne, true_and, and_true, B_0, B_1, not_true_eq_false, not_false_eq_true, i0, iK.2.1, iS.2.1, iH.1.2, iP.2.1, iKp.2.1, e0, c3, c4, c5, c6, c7, c8, f0, f1]
  rw [if_neg h5]
  by_cases h6 : u = 6
  · rw [if_pos h6]
    subst h6
    refine ⟨w, ?_, hX, fun _ _ => rfl, rfl⟩
    simp (disch := first | omega | exact Nat.le_of_ble_eq_true rfl) only [e103_0, e103_1s0, e103_1s1, e103_1s2, e103_1s3, e103_1s4, e103_1s5, e103_1s6, e103_1s7, e103_1s8, e103_1s9, e103_1s10, e103_1s11, e103_1d, e103_64, e103_65, e103_68, e103_71, e103_72, e103_73, e103_76, e103_79, e103_80, e103_81, e103_84, e103_87, e103_88, e103_89, e103_92, e103_95, e103_96, e103_97, e103_100, e103_101, e103_104, e103_107, e103_110, e103_111, e103_112, e103_115, e103_116, e103_119, e103_122, e103_123, e103_124, e103_127, e103_128, e103_131, e103_134, e103_135, e103_136, e103_139, e103_140, e103_143, e103_144, e103_147, e103_148, e103_151, e103_154, e103_157, e103_158, e103_161, e103_162, e103_165, e103_168, e103_169, e103_170, e103_173, e103_176, e103_177, e103_178, e103_181, e103_184, e103_185, e103_186, e103_189, e103_192, e103_193, e103_194, e103_197, e103_198, e103_199, J_add, J_sub, J_mul, J_neg, J_lt, J_le, J_eq, gArr_J, gAst_J, gSiz_J, gFld_o, gUpd_o0, gUpd_o1, gUpd_o2, gUpd_o3, gUpd_o4, gUpd_o5, gUpd_o6, gUpd_o7, gUpd_o8, gUpd_o9, gUpd_o10, gUpd_o11, gUpd_o12, gUpd_o13, gUpd_o14, gUpd_o15, gUpd_o16, gUpd_o17, gUpd_o18, gIsO_o, Option.bind_some, List.getElem?_cons_zero, List.getElem?_cons_succ, List.length_cons, List.length_nil, List.set_cons_zero, List.set_cons_succ, gCat_nil, gCat_int, gCat_ref, if_pos, if_neg, Option.toList_some, Option.toList_none, List.cons_append, List.nil_append, B_nar, J1_nar, J0_nar, if_true, if_false, rd_wr_same, rd_wr_ne, true_and, and_true, B_0, B_1, not_true_eq_false, not_false_eq_true, i0, iK.2.1, iS.2.1, iH.1.2, iP.2.1, iKp.2.1, e0, c3, c4, c5, c6, c7, c8, f0, f1]
  rw [if_neg h6]
  by_cases h7 : u = 7
  · rw [if_pos h7]
    subst h7
    refine ⟨_, ?_, isX_hp hX (lab_far K (cb K S) (K 0 1).toNat), fun z hz => rdHn (by omega), rfl⟩
    simp (disch := first | omega | exact Nat.le_of_ble_eq_true rfl) only [e103_0, e103_1s0, e103_1s1, e103_1s2, e103_1s3, e103_1s4, e103_1s5, e103_1s6, e103_1s7, e103_1s8, e103_1s9, e103_1s10, e103_1s11, e103_1d, e103_64, e103_65, e103_68, e103_71, e103_72, e103_73, e103_76, e103_79, e103_80, e103_81, e103_84, e103_87, e103_88, e103_89, e103_92, e103_95, e103_96, e103_97, e103_100, e103_101, e103_104, e103_107, e103_110, e103_111, e103_112, e103_115, e103_116, e103_119, e103_122, e103_123, e103_124, e103_127, e103_128, e103_131, e103_134, e103_135, e103_136, e103_139, e103_140, e103_143, e103_144, e103_147, e103_148, e103_151, e103_154, e103_157, e103_158, e103_161, e103_162, e103_165, e103_168, e103_169, e103_170, e103_173, e103_176, e103_177, e103_178, e103_181, e103_184, e103_185, e103_186, e103_189, e103_192, e103_193, e103_194, e103_197, e103_198, e103_199, J_add, J_sub, J_mul, J_neg, J_lt, J_le, J_eq, gArr_J, gAst_J, gSiz_J, gFld_o, gUpd_o0, gUpd_o1, gUpd_o2, gUpd_o3, gUpd_o4, gUpd_o5, gUpd_o6, gUpd_o7, gUpd_o8, gUpd_o9, gUpd_o10, gUpd_o11, gUpd_o12, gUpd_o13, gUpd_o14, gUpd_o15, gUpd_o16, gUpd_o17, gUpd_o18, gIsO_o, Option.bind_some, List.getElem?_cons_zero, List.getElem?_cons_succ, List.length_cons, List.length_nil, List.set_cons_zero, List.set_cons_succ, gCat_nil, gCat_int, gCat_ref, if_pos, if_neg, Option.toList_some, Option.toList_none, List.cons_append, List.nil_append, B_nar, J1_nar, J0_nar, if_true, if_false, rd_wr_same, rd_wr_ne, true_and, and_true, B_0, B_1, not_true_eq_false, not_false_eq_true, i0, iK.2.1, iS.2.1, iH.1.2, iP.2.1, iKp.2.1, e0, c3, c4, c5, c6, c7, c8, f0, f1]
  rw [if_neg h7]
  by_cases h8 : u = 8
  · rw [if_pos h8]
    subst h8
    refine ⟨w, ?_, hX, fun _ _ => rfl, rfl⟩
    simp (disch := first | omega | exact Nat.le_of_ble_eq_true rfl) only [e103_0, e103_1s0, e103_1s1, e103_1s2, e103_1s3, e103_1s4, e103_1s5, e103_1s6, e103_1s7, e103_1s8, e103_1s9, e103_1s10, e103_1s11, e103_1d, e103_64, e103_65, e103_68, e103_71, e103_72, e103_73, e103_76, e103_79, e103_80, e103_81, e103_84, e103_87, e103_88, e103_89, e103_92, e103_95, e103_96, e103_97, e103_100, e103_101, e103_104, e103_107, e103_110, e103_111, e103_112, e103_115, e103_116, e103_119, e103_122, e103_123, e103_124, e103_127, e103_128, e103_131, e103_134, e103_135, e103_136, e103_139, e103_140, e103_143, e103_144, e103_147, e103_148, e103_151, e103_154, e103_157, e103_158, e103_161, e103_162, e103_165, e103_168, e103_169, e103_170, e103_173, e103_176, e103_177, e103_178, e103_181, e103_184, e103_185, e103_186, e103_189, e103_192, e103_193, e103_194, e103_197, e103_198, e103_199, J_add, J_sub, J_mul, J_neg, J_lt, J_le, J_eq, gArr_J, gAst_J, gSiz_J, gFld_o, gUpd_o0, gUpd_o1, gUpd_o2, gUpd_o3, gUpd_o4, gUpd_o5, gUpd_o6, gUpd_o7, gUpd_o8, gUpd_o9, gUpd_o10, gUpd_o11, gUpd_o12, gUpd_o13, gUpd_o14, gUpd_o15, gUpd_o16, gUpd_o17, gUpd_o18, gIsO_o, Option.bind_some, List.getElem?_cons_zero, List.getElem?_cons_succ, List.length_cons, List.length_nil, List.set_cons_zero, List.set_cons_succ, gCat_nil, gCat_int, gCat_ref, if_pos, if_neg, Option.toList_some, Option.toList_none, List.cons_append, List.nil_append, B_nar, J1_nar, J0_nar, if_true, if_false, rd_wr_same, rd_wr_ne, true_and, and_true, B_0, B_1, not_true_eq_false, not_false_eq_true, i0, iK.2.1, iS.2.1, iH.1.2, iP.2.1, iKp.2.1, e0, c3, c4, c5, c6, c7, c8, f0, f1]
  rw [if_neg h8]
  by_cases h9 : u = 9
  · rw [if_pos h9]
    subst h9
    refine ⟨w, ?_, hX, fun _ _ => rfl, rfl⟩
    simp (disch := first | omega | exact Nat.le_of_ble_eq_true rfl) only [e103_0, e103_1s0, e103_1s1, e103_1s2, e103_1s3, e103_1s4, e103_1s5, e103_1s6, e103_1s7, e103_1s8, e103_1s9, e103_1s10, e103_1s11, e103_1d, e103_64, e103_65, e103_68, e103_71, e103_72, e103_73, e103_76, e103_79, e103_80, e103_81, e103_84, e103_87, e103_88, e103_89, e103_92, e103_95, e103_96, e103_97, e103_100, e103_101, e103_104, e103_107, e103_110, e103_111, e103_112, e103_115, e103_116, e103_119, e103_122, e103_123, e103_124, e103_127, e103_128, e103_131, e103_134, e103_135, e103_136, e103_139, e103_140, e103_143, e103_144, e103_147, e103_148, e103_151, e103_154, e103_157, e103_158, e103_161, e103_162, e103_165, e103_168, e103_169, e103_170, e103_173, e103_176, e103_177, e103_178, e103_181, e103_184, e103_185, e103_186, e103_189, e103_192, e103_193, e103_194, e103_197, e103_198, e103_199, J_add, J_sub, J_mul, J_neg, J_lt, J_le, J_eq, gArr_J, gAst_J, gSiz_J, gFld_o, gUpd_o0, gUpd_o1, gUpd_o2, gUpd_o3, gUpd_o4, gUpd_o5, gUpd_o6, gUpd_o7, gUpd_o8, gUpd_o9, gUpd_o10, gUpd_o11, gUpd_o12, gUpd_o13, gUpd_o14, gUpd_o15, gUpd_o16, gUpd_o17, gUpd_o18, gIsO_o, Option.bind_some, List.getElem?_cons_zero, List.getElem?_cons_succ, List.length_cons, List.length_nil, List.set_cons_zero, List.set_cons_succ, gCat_nil, gCat_int, gCat_ref, if_pos, if_neg, Option.toList_some, Option.toList_none, List.cons_append, List.nil_append, B_nar, J1_nar, J0_nar, if_true, if_false, rd_wr_same, rd_wr_ne, true_and, and_true, B_0, B_1, not_true_eq_false, not_false_eq_true, i0, iK.2.1, iS.2.1, iH.1.2, iP.2.1, iKp.2.1, e0, c3, c4, c5, c6, c7, c8, f0, f1]
  rw [if_neg h9]
  by_cases h10 : u = 10
  · rw [if_pos h10]
    subst h10
    refine ⟨w, ?_, hX, fun _ _ => rfl, rfl⟩
    simp (disch := first | omega | exact Nat.le_of_ble_eq_true rfl) only [e103_0, e103_1s0, e103_1s1, e103_1s2, e103_1s3, e103_1s4, e103_1s5, e103_1s6, e103_1s7, e103_1s8, e103_1s9, e103_1s10, e103_1s11, e103_1d, e103_64, e103_65, e103_68, e103_71, e103_72, e103_73, e103_76, e103_79, e103_80, e103_81, e103_84, e103_87, e103_88, e103_89, e103_92, e103_95, e103_96, e103_97, e103_100, e103_101, e103_104, e103_107, e103_110, e103_111, e103_112, e103_115, e103_116, e103_119, e103_122, e103_123, e103_124, e103_127, e103_128, e103_131, e103_134, e103_135, e103_136, e103_139, e103_140, e103_143, e103_144, e103_147, e103_148, e103_151, e103_154, e103_157, e103_158, e103_161, e103_162, e103_165, e103_168, e103_169, e103_170, e103_173, e103_176, e103_177, e103_178, e103_181, e103_184, e103_185, e103_186, e103_189, e103_192, e103_193, e103_194, e103_197, e103_198, e103_199, J_add, J_sub, J_mul, J_neg, J_lt, J_le, J_eq, gArr_J, gAst_J, gSiz_J, gFld_o, gUpd_o0, gUpd_o1, gUpd_o2, gUpd_o3, gUpd_o4, gUpd_o5, gUpd_o6, gUpd_o7, gUpd_o8, gUpd_o9, gUpd_o10, gUpd_o11, gUpd_o12, gUpd_o13, gUpd_o14, gUpd_o15, gUpd_o16, gUpd_o17, gUpd_o18, gIsO_o, Option.bind_some, List.getElem?_cons_zero, List.getElem?_cons_succ, List.length_cons, List.length_nil, List.set_cons_zero, List.set_cons_succ, gCat_nil, gCat_int, gCat_ref, if_pos, if_neg, Option.toList_some, Option.toList_none, List.cons_append, List.nil_append, B_nar, J1_nar, J0_nar, if_true, if_false, rd_wr_same, rd_wr_ne, true_and, and_true, B_0, B_1, not_true_eq_false, not_false_eq_true, i0, iK.2.1, iS.2.1, iH.1.2, iP.2.1, iKp.2.1, e0, c3, c4, c5, c6, c7, c8, f0, f1]
  rw [if_neg h10]
  by_cases h11 : u = 11
  · rw [if_pos h11]
    subst h11
    refine ⟨w, ?_, hX, fun _ _ => rfl, rfl⟩
    simp (disch := first | omega | exact Nat.le_of_ble_eq_true rfl) only [e103_0, e103_1s0, e103_1s1, e103_1s2, e103_1s3, e103_1s4, e103_1s5, e103_1s6, e103_1s7, e103_1s8, e103_1s9, e103_1s10, e103_1s11, e103_1d, e103_64, e103_65, e103_68, e103_71, e103_72, e103_73, e103_76, e103_79, e103_80, e103_81, e103_84, e103_87, e103_88, e103_89, e103_92, e103_95, e103_96, e103_97, e103_100, e103_101, e103_104, e103_107, e103_110, e103_111, e103_112, e103_115, e103_116, e103_119, e103_122, e103_123, e103_124, e103_127, e103_128, e103_131, e103_134, e103_135, e103_136, e103_139, e103_140, e103_143, e103_144, e103_147, e103_148, e103_151, e103_154, e103_157, e103_158, e103_161, e103_162, e103_165, e103_168, e103_169, e103_170, e103_173, e103_176, e103_177, e103_178, e103_181, e103_184, e103_185, e103_186, e103_189, e103_192, e103_193, e103_194, e103_197, e103_198, e103_199, J_add, J_sub, J_mul, J_neg, J_lt, J_le, J_eq, gArr_J, gAst_J, gSiz_J, gFld_o, gUpd_o0, gUpd_o1, gUpd_o2, gUpd_o3, gUpd_o4, gUpd_o5, gUpd_o6, gUpd_o7, gUpd_o8, gUpd_o9, gUpd_o10, gUpd_o11, gUpd_o12, gUpd_o13, gUpd_o14, gUpd_o15, gUpd_o16, gUpd_o17, gUpd_o18, gIsO_o, Option.bind_some, List.getElem?_cons_zero, List.getElem?_cons_succ, List.length_cons, List.length_nil, List.set_cons_zero, List.set_cons_succ, gCat_nil, gCat_int, gCat_ref, if_pos, if_neg, Option.toList_some, Option.toList_none, List.cons_append, List.nil_append, B_nar, J1_nar, J0_nar, if_true, if_false, rd_wr_same, rd_wr_ne, true_and, and_true, B_0, B_1, not_true_eq_false, not_false_eq_true, i0, iK.2.1, iS.2.1, iH.1.2, iP.2.1, iKp.2.1, e0, c3, c4, c5, c6, c7, c8, f0, f1]
  rw [if_neg h11]
  refine ⟨w, ?_, hX, fun _ _ => rfl, rfl⟩
  have hd : (J u).toInt < 0 ∨ 11 < (J u).toInt := by rw [J_toInt h_u]; omega
  simp (disch := first | omega | exact hd | exact Nat.le_of_ble_eq_true rfl) only [e103_0, e103_1s0, e103_1s1, e103_1s2, e103_1s3, e103_1s4, e103_1s5, e103_1s6, e103_1s7, e103_1s8, e103_1s9, e103_1s10, e103_1s11, e103_1d, e103_64, e103_65, e103_68, e103_71, e103_72, e103_73, e103_76, e103_79, e103_80, e103_81, e103_84, e103_87, e103_88, e103_89, e103_92, e103_95, e103_96, e103_97, e103_100, e103_101, e103_104, e103_107, e103_110, e103_111, e103_112, e103_115, e103_116, e103_119, e103_122, e103_123, e103_124, e103_127, e103_128, e103_131, e103_134, e103_135, e103_136, e103_139, e103_140, e103_143, e103_144, e103_147, e103_148, e103_151, e103_154, e103_157, e103_158, e103_161, e103_162, e103_165, e103_168, e103_169, e103_170, e103_173, e103_176, e103_177, e103_178, e103_181, e103_184, e103_185, e103_186, e103_189, e103_192, e103_193, e103_194, e103_197, e103_198, e103_199, J_add, J_sub, J_mul, J_neg, J_lt, J_le, J_eq, gArr_J, gAst_J, gSiz_J, gFld_o, gUpd_o0, gUpd_o1, gUpd_o2, gUpd_o3, gUpd_o4, gUpd_o5, gUpd_o6, gUpd_o7, gUpd_o8, gUpd_o9, gUpd_o10, gUpd_o11, gUpd_o12, gUpd_o13, gUpd_o14, gUpd_o15, gUpd_o16, gUpd_o17, gUpd_o18, gIsO_o, Option.bind_some, List.getElem?_cons_zero, List.getElem?_cons_succ, List.length_cons, List.length_nil, List.set_cons_zero, List.set_cons_succ, gCat_nil, gCat_int, gCat_ref, if_pos, if_neg, Option.toList_some, Option.toList_none, List.cons_append, List.nil_append, B_nar, J1_nar, J0_nar, if_true, if_false, rd_wr_same, rd_wr_ne, true_and, and_true, B_0, B_1, not_true_eq_false, not_false_eq_true, i0]

theorem and_pow (P b : Nat) : (P &&& 2 ^ b = 0) = ¬ P.testBit b = true := by
  refine propext ⟨fun h q => ?_, fun h => ?_⟩
  · have := congrArg (fun z => z.testBit b) h
    simp [Nat.testBit_and, q] at this
  · refine Nat.eq_of_testBit_eq fun i => ?_
    rw [Nat.testBit_and, Nat.testBit_two_pow, Nat.zero_testBit]
    by_cases q : b = i
    · subst q
      simp [h]
    · simp [q]
def btw (K : Lay) (s b : Nat) : Nat → Nat → Nat → Int
  | 0, _, _ => -4
  | k + 1, l, P => if P.testBit b = true then (l : Int) else btw K s b k (l + 1) (onw K s P (K 0 1).toNat)
def aBtw (K S : Lay) (a b : Int) : Int := if okP K a ∧ okP K b then btw K (cb K S) b.toNat 8 0 (2 ^ a.toNat) else -1
theorem l93 {nat : gNat} {d : Nat} {w : gWd} {p : Nat} {K : Lay} (hK : vK K) (iK : isMe w p K) {x : List Value} (h0 : rd w 0 = oC 8 x) (h3 : x[3]? = some (.ref p)) {s b : Nat} (hs : s < 256) (hb : b < 8) {z1 z2 : Option Value} : ∀ (k l P : Nat), k + l = 8 → P < 256 → gX (gC nat (d + 3)) nat 93 43 [some (.ref 0), z1, z2, some (.int (J s)), some (.int (J (2 ^ b : Nat))), some (.int (J P)), some (.int (J l))] [] [] w = some (some (.int (J (btw K s b k l P))), w) := by
  intro k
  induction k with
  | zero =>
    intro l P h hP
    have e : l = 8 := by omega
    subst e
    rw [btw, e93_43, show ((8 : Nat) : Int) = 8 from rfl]
    simp (disch := first | omega | exact Nat.le_of_ble_eq_true rfl) only [e93_0, e93_1, e93_2, e93_5, e93_8, e93_9, e93_10, e93_13, e93_16, e93_17, e93_18, e93_19, e93_22, e93_23, e93_26, e93_29, e93_30, e93_31, e93_32, e93_33, e93_35, e93_36, e93_37, e93_38, e93_40, e93_41, e93_45, e93_47, e93_50, e93_52, e93_54, e93_55, e93_58, e93_60, e93_61, e93_62, e93_65, e93_67, e93_68, e93_71, e93_73, e93_76, e93_79, e93_81, J_add, J_sub, J_mul, J_neg, J_lt, J_le, J_eq, gArr_J, gAst_J, gSiz_J, gFld_o, gUpd_o0, gUpd_o1, gUpd_o2, gUpd_o3, gUpd_o4, gUpd_o5, gUpd_o6, gUpd_o7, gUpd_o8, gUpd_o9, gUpd_o10, gUpd_o11, gUpd_o12, gUpd_o13, gUpd_o14, gUpd_o15, gUpd_o16, gUpd_o17, gUpd_o18, gIsO_o, Option.bind_some, List.getElem?_cons_zero, List.getElem?_cons_succ, List.length_cons, List.length_nil, List.set_cons_zero, List.set_cons_succ, gCat_nil, gCat_int, gCat_ref, if_pos, if_neg, Option.toList_some, Option.toList_none, List.cons_append, List.nil_append, B_nar, J1_nar, J0_nar, if_true, if_false, rd_wr_same, rd_wr_ne, true_and, and_true, B_0, B_1, not_true_eq_false, not_false_eq_true]
  | succ k ih =>
    intro l P h hP
    have c1 := s24 (nat := nat) (d := d) (w := w) (s := s) (P := P) iK hK hs hP
    have := ih (l + 1) (onw K s P (K 0 1).toNat) (by omega) (onw_lt hK hP _ (by have := hK.2.1; omega))
    rw [show ((l + 1 : Nat) : Int) = (l : Int) + 1 from rfl] at this
    have h256 := pow8 hb
    have hlt : P &&& 2 ^ b < 256 := Nat.lt_of_le_of_lt Nat.and_le_left hP
    have hz : (J ((P &&& 2 ^ b : Nat) : Int) = J 0) = ¬ P.testBit b = true := by
      rw [show J 0 = J ((0 : Nat) : Int) from rfl, J_eqN (by omega) (by omega), and_pow]
    have g3 : gFld (rd w 0) 8 3 = some (.ref p) := by rw [h0, gFld_o, h3]
    rw [btw, e93_43]
    by_cases hq : P.testBit b = true
    · rw [if_pos hq]
      have hz' : ¬ (J ((P &&& 2 ^ b : Nat) : Int) = J 0) := by rw [hz]; exact fun z => z hq
      simp (disch := first | omega | exact Nat.le_of_ble_eq_true rfl) only [e93_0, e93_1, e93_2, e93_5, e93_8, e93_9, e93_10, e93_13, e93_16, e93_17, e93_18, e93_19, e93_22, e93_23, e93_26, e93_29, e93_30, e93_31, e93_32, e93_33, e93_35, e93_36, e93_37, e93_38, e93_40, e93_41, e93_45, e93_47, e93_50, e93_52, e93_54, e93_55, e93_58, e93_60, e93_61, e93_62, e93_65, e93_67, e93_68, e93_71, e93_73, e93_76, e93_79, e93_81, J_add, J_sub, J_mul, J_neg, J_lt, J_le, J_eq, gArr_J, gAst_J, gSiz_J, gFld_o, gUpd_o0, gUpd_o1, gUpd_o2, gUpd_o3, gUpd_o4, gUpd_o5, gUpd_o6, gUpd_o7, gUpd_o8, gUpd_o9, gUpd_o10, gUpd_o11, gUpd_o12, gUpd_o13, gUpd_o14, gUpd_o15, gUpd_o16, gUpd_o17, gUpd_o18, gIsO_o, Option.bind_some, List.getElem?_cons_zero, List.getElem?_cons_succ, List.length_cons, List.length_nil, List.set_cons_zero, List.set_cons_succ, gCat_nil, gCat_int, gCat_ref, if_pos, if_neg, Option.toList_some, Option.toList_none, List.cons_append, List.nil_append, B_nar, J1_nar, J0_nar, if_true, if_false, rd_wr_same, rd_wr_ne, true_and, and_true, B_0, B_1, not_true_eq_false, not_false_eq_true, J_and, hz']
    · rw [if_neg hq]
      have hz' : J ((P &&& 2 ^ b : Nat) : Int) = J 0 := by rw [hz]; exact hq
      simp (disch := first | omega | exact Nat.le_of_ble_eq_true rfl) only [e93_0, e93_1, e93_2, e93_5, e93_8, e93_9, e93_10, e93_13, e93_16, e93_17, e93_18, e93_19, e93_22, e93_23, e93_26, e93_29, e93_30, e93_31, e93_32, e93_33, e93_35, e93_36, e93_37, e93_38, e93_40, e93_41, e93_45, e93_47, e93_50, e93_52, e93_54, e93_55, e93_58, e93_60, e93_61, e93_62, e93_65, e93_67, e93_68, e93_71, e93_73, e93_76, e93_79, e93_81, J_add, J_sub, J_mul, J_neg, J_lt, J_le, J_eq, gArr_J, gAst_J, gSiz_J, gFld_o, gUpd_o0, gUpd_o1, gUpd_o2, gUpd_o3, gUpd_o4, gUpd_o5, gUpd_o6, gUpd_o7, gUpd_o8, gUpd_o9, gUpd_o10, gUpd_o11, gUpd_o12, gUpd_o13, gUpd_o14, gUpd_o15, gUpd_o16, gUpd_o17, gUpd_o18, gIsO_o, Option.bind_some, List.getElem?_cons_zero, List.getElem?_cons_succ, List.length_cons, List.length_nil, List.set_cons_zero, List.set_cons_succ, gCat_nil, gCat_int, gCat_ref, if_pos, if_neg, Option.toList_some, Option.toList_none, List.cons_append, List.nil_append, B_nar, J1_nar, J0_nar, if_true, if_false, rd_wr_same, rd_wr_ne, true_and, and_true, B_0, B_1, not_true_eq_false, not_false_eq_true, J_and, hz', g3, c1, this, iK.2.1]

theorem x93 {nat : gNat} {d : Nat} {w : gWd} {p q : Nat} {X K S : Lay} {PT KT : Nat → Lay} (hX : isX w p q X K S PT KT) (hK : vK K) (hS : vS K S) (hH : 0 ≤ S 0 0 ∧ S 0 0 < 1000000) {a b : Int} (h_a : -2147483648 ≤ a ∧ a < 2147483648) (h_b : -2147483648 ≤ b ∧ b < 2147483648)  : gC nat (d + 25) 93 [.ref 0, .int (J a), .int (J b)] w = some (some (.int (J (aBtw K S a b))), w) := by
  rw [en93]
  obtain ⟨i0, iT, iR, iK, iQ, iS, inS, iTr, iP, iKp, iE, iH, iW, iD, hpq⟩ := id hX
  have c1 := s107 (nat := nat) (d := d + 22) (w := w) i0 iK hK (g := a) h_a
  have c2 := s107 (nat := nat) (d := d + 22) (w := w) i0 iK hK (g := b) h_b
  have k0 := hK.1
  unfold aBtw
  by_cases h1 : okP K a
  rotate_left
  · rw [B_neg h1] at c1
    rw [if_neg (fun z => h1 z.1)]
    simp (disch := first | omega | exact Nat.le_of_ble_eq_true rfl) only [e93_0, e93_1, e93_2, e93_5, e93_8, e93_9, e93_10, e93_13, e93_16, e93_17, e93_18, e93_19, e93_22, e93_23, e93_26, e93_29, e93_30, e93_31, e93_32, e93_33, e93_35, e93_36, e93_37, e93_38, e93_40, e93_41, e93_45, e93_47, e93_50, e93_52, e93_54, e93_55, e93_58, e93_60, e93_61, e93_62, e93_65, e93_67, e93_68, e93_71, e93_73, e93_76, e93_79, e93_81, J_add, J_sub, J_mul, J_neg, J_lt, J_le, J_eq, gArr_J, gAst_J, gSiz_J, gFld_o, gUpd_o0, gUpd_o1, gUpd_o2, gUpd_o3, gUpd_o4, gUpd_o5, gUpd_o6, gUpd_o7, gUpd_o8, gUpd_o9, gUpd_o10, gUpd_o11, gUpd_o12, gUpd_o13, gUpd_o14, gUpd_o15, gUpd_o16, gUpd_o17, gUpd_o18, gIsO_o, Option.bind_some, List.getElem?_cons_zero, List.getElem?_cons_succ, List.length_cons, List.length_nil, List.set_cons_zero, List.set_cons_succ, gCat_nil, gCat_int, gCat_ref, if_pos, if_neg, Option.toList_some, Option.toList_none, List.cons_append, List.nil_append, B_nar, J1_nar, J0_nar, if_true, if_false, rd_wr_same, rd_wr_ne, true_and, and_true, B_0, B_1, not_true_eq_false, not_false_eq_true, i0, c1]
  rw [B_pos h1] at c1
  by_cases h2 : okP K b
  rotate_left
  · rw [B_neg h2] at c2
    rw [if_neg (fun z => h2 z.2)]
    simp (disch := first | omega | exact Nat.le_of_ble_eq_true rfl) only [e93_0, e93_1, e93_2, e93_5, e93_8, e93_9, e93_10, e93_13, e93_16, e93_17, e93_18, e93_19, e93_22, e93_23, e93_26, e93_29, e93_30, e93_31, e93_32, e93_33, e93_35, e93_36, e93_37, e93_38, e93_40, e93_41, e93_45, e93_47, e93_50, e93_52, e93_54, e93_55, e93_58, e93_60, e93_61, e93_62, e93_65, e93_67, e93_68, e93_71, e93_73, e93_76, e93_79, e93_81, J_add, J_sub, J_mul, J_neg, J_lt, J_le, J_eq, gArr_J, gAst_J, gSiz_J, gFld_o, gUpd_o0, gUpd_o1, gUpd_o2, gUpd_o3, gUpd_o4, gUpd_o5, gUpd_o6, gUpd_o7, gUpd_o8, gUpd_o9, gUpd_o10, gUpd_o11, gUpd_o12, gUpd_o13, gUpd_o14, gUpd_o15, gUpd_o16, gUpd_o17, gUpd_o18, gIsO_o, Option.bind_some, List.getElem?_cons_zero, List.getElem?_cons_succ, List.length_cons, List.length_nil, List.set_cons_zero, List.set_cons_succ, gCat_nil, gCat_int, gCat_ref, if_pos, if_neg, Option.toList_some, Option.toList_none, List.cons_append, List.nil_append, B_nar, J1_nar, J0_nar, if_true, if_false, rd_wr_same, rd_wr_ne, true_and, and_true, B_0, B_1, not_true_eq_false, not_false_eq_true, i0, c1, c2]
  rw [B_pos h2] at c2
  rw [if_pos ⟨h1, h2⟩]
  have c3 := s63x (nat := nat) (d := d + 21) hX hK hS
  have hs1 := J_shl (g := a) (by omega)
  have hs2 := J_shl (g := b) (by omega)
  have := l93 (nat := nat) (d := d + 21) (w := w) (z1 := some (.int (J a))) (z2 := some (.int (J b))) hK iK i0 rfl (cb_lt hK S) (b := b.toNat) (by omega) 8 0 (2 ^ a.toNat) rfl (pow8 (by omega))
  rw [show ((0 : Nat) : Int) = 0 from rfl] at this
  simp (disch := first | omega | exact Nat.le_of_ble_eq_true rfl) only [e93_0, e93_1, e93_2, e93_5, e93_8, e93_9, e93_10, e93_13, e93_16, e93_17, e93_18, e93_19, e93_22, e93_23, e93_26, e93_29, e93_30, e93_31, e93_32, e93_33, e93_35, e93_36, e93_37, e93_38, e93_40, e93_41, e93_45, e93_47, e93_50, e93_52, e93_54, e93_55, e93_58, e93_60, e93_61, e93_62, e93_65, e93_67, e93_68, e93_71, e93_73, e93_76, e93_79, e93_81, J_add, J_sub, J_mul, J_neg, J_lt, J_le, J_eq, gArr_J, gAst_J, gSiz_J, gFld_o, gUpd_o0, gUpd_o1, gUpd_o2, gUpd_o3, gUpd_o4, gUpd_o5, gUpd_o6, gUpd_o7, gUpd_o8, gUpd_o9, gUpd_o10, gUpd_o11, gUpd_o12, gUpd_o13, gUpd_o14, gUpd_o15, gUpd_o16, gUpd_o17, gUpd_o18, gIsO_o, Option.bind_some, List.getElem?_cons_zero, List.getElem?_cons_succ, List.length_cons, List.length_nil, List.set_cons_zero, List.set_cons_succ, gCat_nil, gCat_int, gCat_ref, if_pos, if_neg, Option.toList_some, Option.toList_none, List.cons_append, List.nil_append, B_nar, J1_nar, J0_nar, if_true, if_false, rd_wr_same, rd_wr_ne, true_and, and_true, B_0, B_1, not_true_eq_false, not_false_eq_true, i0, iS.2.1, c1, c2, c3, hs1, hs2, this]
