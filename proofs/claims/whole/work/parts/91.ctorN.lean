theorem l75n {nat : gNat} (hs : sNat nat) {d : Nat} {fs : List Value} (h0 : fs[0]? = some (.ref 1)) : ∀ (k i : Nat) (w : gWd), i + k = 135 → rd w 0 = oC 8 fs → rd w 1 = iC 200 (eI (nL i)) → ∃ w', gX (gC gNatNo (d + 1)) nat 75 156 [some (.ref 0), some (.int (J 135)), some (.int (J i))] [] [] w = gX (gC gNatNo (d + 1)) nat 75 181 [some (.ref 0), some (.int (J 135)), some (.int (J 135))] [] [] w' ∧ rd w' 1 = iC 200 (eI tL) ∧ (∀ q, q ≠ 1 → rd w' q = rd w q) ∧ w'.2 = w.2 := by
  obtain ⟨s12, s10, s11⟩ := hs
  have hb := gSTR_big
  intro k
  induction k with
  | zero =>
    intro i w hi h1 h2
    have e : i = 135 := by omega
    subst e
    refine ⟨w, ?_, ?_, fun _ _ => rfl, rfl⟩
    · rw [e75_156, show ((135 : Nat) : Int) = 135 from rfl]
      simp (disch := first | omega | exact Nat.le_of_ble_eq_true rfl) only [e75_0, e75_1, e75_4, e75_5, e75_8, e75_10, e75_13, e75_14, e75_15, e75_18, e75_19, e75_22, e75_22i, e75_23, e75_26, e75_29, e75_30, e75_33, e75_33i, e75_34, e75_37, e75_40, e75_41, e75_44, e75_44i, e75_45, e75_48, e75_51, e75_52, e75_55, e75_55i, e75_56, e75_59, e75_62, e75_63, e75_66, e75_66i, e75_67, e75_70, e75_73, e75_74, e75_77, e75_77i, e75_78, e75_80, e75_83, e75_86, e75_87, e75_90, e75_90i, e75_91, e75_92, e75_95, e75_98, e75_99, e75_102, e75_102i, e75_103, e75_106, e75_109, e75_110, e75_113, e75_113i, e75_114, e75_117, e75_120, e75_121, e75_124, e75_124i, e75_125, e75_128, e75_131, e75_132, e75_135, e75_135i, e75_136, e75_139, e75_142, e75_144, e75_147, e75_150, e75_153, e75_154, e75_155, e75_157, e75_158, e75_161, e75_162, e75_165, e75_166, e75_168, e75_169, e75_172, e75_175, e75_178, e75_182, e75_185, e75_186, e75_189, e75_190, e75_191, e75_194, e75_197, e75_198, e75_199, e75_202, J_add, J_sub, J_mul, J_neg, J_lt, J_le, J_eq, gArr_J, gAst_J, gSiz_J, gFld_o, gUpd_o0, gUpd_o1, gUpd_o2, gUpd_o3, gUpd_o4, gUpd_o5, gUpd_o6, gUpd_o7, gUpd_o8, gUpd_o9, gUpd_o10, gUpd_o11, gUpd_o12, gUpd_o13, gUpd_o14, gUpd_o15, gUpd_o16, gUpd_o17, gUpd_o18, gIsO_o, Option.bind_some, List.getElem?_cons_zero, List.getElem?_cons_succ, List.length_cons, List.length_nil, List.set_cons_zero, List.set_cons_succ, gCat_nil, gCat_int, gCat_ref, if_pos, if_neg, Option.toList_some, Option.toList_none, List.cons_append, List.nil_append, B_nar, J1_nar, J0_nar, if_true, if_false, rd_wr_same, rd_wr_ne, true_and, and_true, B_0, B_1, not_true_eq_false, not_false_eq_true]
    · rw [h2]
      congr 2
      funext j
      unfold nL
      by_cases hj : 0 ≤ j ∧ j < ((135 : Nat) : Int)
      · rw [if_pos hj]
      · rw [if_neg hj]
        by_cases h0 : 0 ≤ j
        · rw [tL_z (by omega)]
        · unfold tL
          rw [if_neg h0]
  | succ k ih =>
    intro i w hi h1 h2
    have c1 := s11 i (by omega)
    have c2 := s118 (nat := gNatNo) (d := d) (w := w) (a := 1) (n := 200) (f := nL i) (i := i) (v := tL i) h2 (by omega) (by omega) (by omega)
    have g0 : gFld (rd w 0) 8 0 = some (.ref 1) := by rw [h1, gFld_o]; exact h0
    obtain ⟨w', k1, k2, k3, k4⟩ := ih (i + 1) (wr w 1 (iC 200 (eI (fset (nL i) i (tL i))))) (by omega) (by rw [rd_wr_ne (by omega)]; exact h1) (by
      rw [rd_wr_same]
      congr 2
      funext j
      unfold fset nL
      by_cases e : j = i
      · subst e
        rw [if_pos rfl, if_pos (by omega)]
      · rw [if_neg e]
        by_cases h : 0 ≤ j ∧ j < (i : Int)
        · rw [if_pos h, if_pos (by omega)]
        · rw [if_neg h, if_neg (by omega)])
    refine ⟨w', ?_, k2, fun q hq => by rw [k3 q hq, rd_wr_ne hq], k4⟩
    rw [← k1, e75_156, show ((i + 1 : Nat) : Int) = (i : Int) + 1 from rfl]
    simp (disch := first | omega | exact Nat.le_of_ble_eq_true rfl) only [e75_0, e75_1, e75_4, e75_5, e75_8, e75_10, e75_13, e75_14, e75_15, e75_18, e75_19, e75_22, e75_22i, e75_23, e75_26, e75_29, e75_30, e75_33, e75_33i, e75_34, e75_37, e75_40, e75_41, e75_44, e75_44i, e75_45, e75_48, e75_51, e75_52, e75_55, e75_55i, e75_56, e75_59, e75_62, e75_63, e75_66, e75_66i, e75_67, e75_70, e75_73, e75_74, e75_77, e75_77i, e75_78, e75_80, e75_83, e75_86, e75_87, e75_90, e75_90i, e75_91, e75_92, e75_95, e75_98, e75_99, e75_102, e75_102i, e75_103, e75_106, e75_109, e75_110, e75_113, e75_113i, e75_114, e75_117, e75_120, e75_121, e75_124, e75_124i, e75_125, e75_128, e75_131, e75_132, e75_135, e75_135i, e75_136, e75_139, e75_142, e75_144, e75_147, e75_150, e75_153, e75_154, e75_155, e75_157, e75_158, e75_161, e75_162, e75_165, e75_166, e75_168, e75_169, e75_172, e75_175, e75_178, e75_182, e75_185, e75_186, e75_189, e75_190, e75_191, e75_194, e75_197, e75_198, e75_199, e75_202, J_add, J_sub, J_mul, J_neg, J_lt, J_le, J_eq, gArr_J, gAst_J, gSiz_J, gFld_o, gUpd_o0, gUpd_o1, gUpd_o2, gUpd_o3, gUpd_o4, gUpd_o5, gUpd_o6, gUpd_o7, gUpd_o8, gUpd_o9, gUpd_o10, gUpd_o11, gUpd_o12, gUpd_o13, gUpd_o14, gUpd_o15, gUpd_o16, gUpd_o17, gUpd_o18, gIsO_o, Option.bind_some, List.getElem?_cons_zero, List.getElem?_cons_succ, List.length_cons, List.length_nil, List.set_cons_zero, List.set_cons_succ, gCat_nil, gCat_int, gCat_ref, if_pos, if_neg, Option.toList_some, Option.toList_none, List.cons_append, List.nil_append, B_nar, J1_nar, J0_nar, if_true, if_false, rd_wr_same, rd_wr_ne, true_and, and_true, B_0, B_1, not_true_eq_false, not_false_eq_true, g0, s12, c1, c2]


theorem c75n0 {nat : gNat} {d : Nat} {w : gWd} (h : rd w 0 = oC 8 [.null, .int 0, .null, .null, .null, .null, .null, .null, .null, .null, .null, .null, .null]) (hn : w.2.1 = 1) (hk : w.2.2 = 13) : ∃ w1, gX (gC gNatNo (d + 24)) nat 75 0 [some (.ref 0), none, none] [] [] w = gX (gC gNatNo (d + 24)) nat 75 142 [some (.ref 0), none, none] [] [] w1 ∧ isX w1 4 8 zL zL zL (fun _ => zL) (fun _ => zL) ∧ w1.2 = (96, 853) := by
  have hb := gSTR_big
  have o0 : rd (wr (al w (iC 200 (fun _ => 0)) 200) 0 (oC 8 [.ref 1, .int 0, .null, .null, .null, .null, .null, .null, .null, .null, .null, .null, .null])) 0 = oC 8 [.ref 1, .int 0, .null, .null, .null, .null, .null, .null, .null, .null, .null, .null, .null] := rd_wr_same
  have n1 : (wr (al w (iC 200 (fun _ => 0)) 200) 0 (oC 8 [.ref 1, .int 0, .null, .null, .null, .null, .null, .null, .null, .null, .null, .null, .null])).2.1 = 2 := by rw [wr_n, al_n, hn]
  have w1 : (wr (wr (al w (iC 200 (fun _ => 0)) 200) 0 (oC 8 [.ref 1, .int 0, .null, .null, .null, .null, .null, .null, .null, .null, .null, .null, .null])) 0 (oC 8 [.ref 1, .int (J 0), .null, .null, .null, .null, .null, .null, .null, .null, .null, .null, .null])).2.1 = 2 := by rw [wr_n]; exact n1
  have p1 : rd (wr (wr (al w (iC 200 (fun _ => 0)) 200) 0 (oC 8 [.ref 1, .int 0, .null, .null, .null, .null, .null, .null, .null, .null, .null, .null, .null])) 0 (oC 8 [.ref 1, .int (J 0), .null, .null, .null, .null, .null, .null, .null, .null, .null, .null, .null])) 0 = oC 8 [.ref 1, .int (J 0), .null, .null, .null, .null, .null, .null, .null, .null, .null, .null, .null] := rd_wr_same
  have t1 : rd (wr (wr (al w (iC 200 (fun _ => 0)) 200) 0 (oC 8 [.ref 1, .int 0, .null, .null, .null, .null, .null, .null, .null, .null, .null, .null, .null])) 0 (oC 8 [.ref 1, .int (J 0), .null, .null, .null, .null, .null, .null, .null, .null, .null, .null, .null])) 1 = iC 200 (fun _ => 0) := by rw [rd_wr_ne (by omega), rd_wr_ne (by omega), rd_al_n hn.symm]
  have a0 : rd (al w (iC 200 (fun _ => 0)) 200) 0 = _ := (rd_al_o (by rw [hn]; omega)).trans h
  obtain ⟨V0, g0, q0, f0, z0⟩ := c25 (nat := gNatNo) (d := d + 23) (w := (al (wr (wr (al w (iC 200 (fun _ => 0)) 200) 0 (oC 8 [.ref 1, .int 0, .null, .null, .null, .null, .null, .null, .null, .null, .null, .null, .null])) 0 (oC 8 [.ref 1, .int (J 0), .null, .null, .null, .null, .null, .null, .null, .null, .null, .null, .null])) (oC 3 [.null, .int 0, .int 0]) 3)) (m := 2) (rd_al_n (by rw [w1])) (by rw [al_n, w1]) (by omega)
  have u0 : rd V0 0 = oC 8 [.ref 1, .int (J 0), .null, .null, .null, .null, .null, .null, .null, .null, .null, .null, .null] := (f0 0 (by omega)).trans ((rd_al_o (by rw [w1]; omega)).trans p1)
  have F0 : ∀ q, q < 2 → rd V0 q = rd (wr (wr (al w (iC 200 (fun _ => 0)) 200) 0 (oC 8 [.ref 1, .int 0, .null, .null, .null, .null, .null, .null, .null, .null, .null, .null, .null])) 0 (oC 8 [.ref 1, .int (J 0), .null, .null, .null, .null, .null, .null, .null, .null, .null, .null, .null])) q := fun q hq => (f0 q hq).trans (rd_al_o (by rw [w1]; omega))
  have m0 : V0.2.1 = 4 := by rw [z0]
  have y0 : (wr V0 0 (oC 8 [.ref 1, .int (J 0), .ref 2, .null, .null, .null, .null, .null, .null, .null, .null, .null, .null])).2.1 = 4 := by rw [wr_n, m0]
  have p0x : rd (wr V0 0 (oC 8 [.ref 1, .int (J 0), .ref 2, .null, .null, .null, .null, .null, .null, .null, .null, .null, .null])) 0 = oC 8 [.ref 1, .int (J 0), .ref 2, .null, .null, .null, .null, .null, .null, .null, .null, .null, .null] := rd_wr_same
  obtain ⟨V1, g1, q1, f1, z1⟩ := c13 (nat := gNatNo) (d := d + 23) (w := (al (wr V0 0 (oC 8 [.ref 1, .int (J 0), .ref 2, .null, .null, .null, .null, .null, .null, .null, .null, .null, .null])) (oC 2 [.int 0, .int 0, .int 0, .int 0, .int 0, .null, .null, .null]) 8)) (m := 4) (rd_al_n (by rw [y0])) (by rw [al_n, y0]) (by omega)
  have u1 : rd V1 0 = oC 8 [.ref 1, .int (J 0), .ref 2, .null, .null, .null, .null, .null, .null, .null, .null, .null, .null] := (f1 0 (by omega)).trans ((rd_al_o (by rw [y0]; omega)).trans p0x)
  have F1 : ∀ q, q < 4 → rd V1 q = rd (wr V0 0 (oC 8 [.ref 1, .int (J 0), .ref 2, .null, .null, .null, .null, .null, .null, .null, .null, .null, .null])) q := fun q hq => (f1 q hq).trans (rd_al_o (by rw [y0]; omega))
  have m1 : V1.2.1 = 8 := by rw [z1]
  have y1 : (wr V1 0 (oC 8 [.ref 1, .int (J 0), .ref 2, .ref 4, .null, .null, .null, .null, .null, .null, .null, .null, .null])).2.1 = 8 := by rw [wr_n, m1]
  have p1x : rd (wr V1 0 (oC 8 [.ref 1, .int (J 0), .ref 2, .ref 4, .null, .null, .null, .null, .null, .null, .null, .null, .null])) 0 = oC 8 [.ref 1, .int (J 0), .ref 2, .ref 4, .null, .null, .null, .null, .null, .null, .null, .null, .null] := rd_wr_same
  obtain ⟨V2, g2, q2, f2, z2⟩ := c13 (nat := gNatNo) (d := d + 23) (w := (al (wr V1 0 (oC 8 [.ref 1, .int (J 0), .ref 2, .ref 4, .null, .null, .null, .null, .null, .null, .null, .null, .null])) (oC 2 [.int 0, .int 0, .int 0, .int 0, .int 0, .null, .null, .null]) 8)) (m := 8) (rd_al_n (by rw [y1])) (by rw [al_n, y1]) (by omega)
  have u2 : rd V2 0 = oC 8 [.ref 1, .int (J 0), .ref 2, .ref 4, .null, .null, .null, .null, .null, .null, .null, .null, .null] := (f2 0 (by omega)).trans ((rd_al_o (by rw [y1]; omega)).trans p1x)
  have F2 : ∀ q, q < 8 → rd V2 q = rd (wr V1 0 (oC 8 [.ref 1, .int (J 0), .ref 2, .ref 4, .null, .null, .null, .null, .null, .null, .null, .null, .null])) q := fun q hq => (f2 q hq).trans (rd_al_o (by rw [y1]; omega))
  have m2 : V2.2.1 = 12 := by rw [z2]
  have y2 : (wr V2 0 (oC 8 [.ref 1, .int (J 0), .ref 2, .ref 4, .ref 8, .null, .null, .null, .null, .null, .null, .null, .null])).2.1 = 12 := by rw [wr_n, m2]
  have p2x : rd (wr V2 0 (oC 8 [.ref 1, .int (J 0), .ref 2, .ref 4, .ref 8, .null, .null, .null, .null, .null, .null, .null, .null])) 0 = oC 8 [.ref 1, .int (J 0), .ref 2, .ref 4, .ref 8, .null, .null, .null, .null, .null, .null, .null, .null] := rd_wr_same
  obtain ⟨V3, g3, q3, f3, z3⟩ := c56 (nat := gNatNo) (d := d + 23) (w := (al (wr V2 0 (oC 8 [.ref 1, .int (J 0), .ref 2, .ref 4, .ref 8, .null, .null, .null, .null, .null, .null, .null, .null])) (oC 7 [.int 0, .null, .null, .null]) 4)) (m := 12) (rd_al_n (by rw [y2])) (by rw [al_n, y2]) (by omega)
  have u3 : rd V3 0 = oC 8 [.ref 1, .int (J 0), .ref 2, .ref 4, .ref 8, .null, .null, .null, .null, .null, .null, .null, .null] := (f3 0 (by omega)).trans ((rd_al_o (by rw [y2]; omega)).trans p2x)
  have F3 : ∀ q, q < 12 → rd V3 q = rd (wr V2 0 (oC 8 [.ref 1, .int (J 0), .ref 2, .ref 4, .ref 8, .null, .null, .null, .null, .null, .null, .null, .null])) q := fun q hq => (f3 q hq).trans (rd_al_o (by rw [y2]; omega))
  have m3 : V3.2.1 = 16 := by rw [z3]
  have y3 : (wr V3 0 (oC 8 [.ref 1, .int (J 0), .ref 2, .ref 4, .ref 8, .ref 12, .null, .null, .null, .null, .null, .null, .null])).2.1 = 16 := by rw [wr_n, m3]
  have p3x : rd (wr V3 0 (oC 8 [.ref 1, .int (J 0), .ref 2, .ref 4, .ref 8, .ref 12, .null, .null, .null, .null, .null, .null, .null])) 0 = oC 8 [.ref 1, .int (J 0), .ref 2, .ref 4, .ref 8, .ref 12, .null, .null, .null, .null, .null, .null, .null] := rd_wr_same
  obtain ⟨V4, g4, q4, f4, z4⟩ := c56 (nat := gNatNo) (d := d + 23) (w := (al (wr V3 0 (oC 8 [.ref 1, .int (J 0), .ref 2, .ref 4, .ref 8, .ref 12, .null, .null, .null, .null, .null, .null, .null])) (oC 7 [.int 0, .null, .null, .null]) 4)) (m := 16) (rd_al_n (by rw [y3])) (by rw [al_n, y3]) (by omega)
  have u4 : rd V4 0 = oC 8 [.ref 1, .int (J 0), .ref 2, .ref 4, .ref 8, .ref 12, .null, .null, .null, .null, .null, .null, .null] := (f4 0 (by omega)).trans ((rd_al_o (by rw [y3]; omega)).trans p3x)
  have F4 : ∀ q, q < 16 → rd V4 q = rd (wr V3 0 (oC 8 [.ref 1, .int (J 0), .ref 2, .ref 4, .ref 8, .ref 12, .null, .null, .null, .null, .null, .null, .null])) q := fun q hq => (f4 q hq).trans (rd_al_o (by rw [y3]; omega))
  have m4 : V4.2.1 = 20 := by rw [z4]
  have y4 : (wr V4 0 (oC 8 [.ref 1, .int (J 0), .ref 2, .ref 4, .ref 8, .ref 12, .ref 16, .null, .null, .null, .null, .null, .null])).2.1 = 20 := by rw [wr_n, m4]
  have p4x : rd (wr V4 0 (oC 8 [.ref 1, .int (J 0), .ref 2, .ref 4, .ref 8, .ref 12, .ref 16, .null, .null, .null, .null, .null, .null])) 0 = oC 8 [.ref 1, .int (J 0), .ref 2, .ref 4, .ref 8, .ref 12, .ref 16, .null, .null, .null, .null, .null, .null] := rd_wr_same
  obtain ⟨V5, g5, q5, f5, z5⟩ := c50_8 (nat := gNatNo) (d := d + 22) (w := (al (wr V4 0 (oC 8 [.ref 1, .int (J 0), .ref 2, .ref 4, .ref 8, .ref 12, .ref 16, .null, .null, .null, .null, .null, .null])) (oC 6 [.int 0, .int 0, .null]) 3)) (x := 20) (rd_al_n (by rw [y4])) (by rw [al_n, y4]) (by omega)
  have u5 : rd V5 0 = oC 8 [.ref 1, .int (J 0), .ref 2, .ref 4, .ref 8, .ref 12, .ref 16, .null, .null, .null, .null, .null, .null] := (f5 0 (by omega)).trans ((rd_al_o (by rw [y4]; omega)).trans p4x)
  have F5 : ∀ q, q < 20 → rd V5 q = rd (wr V4 0 (oC 8 [.ref 1, .int (J 0), .ref 2, .ref 4, .ref 8, .ref 12, .ref 16, .null, .null, .null, .null, .null, .null])) q := fun q hq => (f5 q hq).trans (rd_al_o (by rw [y4]; omega))
  have m5 : V5.2.1 = 54 := by rw [z5]
  have y5 : (wr V5 0 (oC 8 [.ref 1, .int (J 0), .ref 2, .ref 4, .ref 8, .ref 12, .ref 16, .ref 20, .null, .null, .null, .null, .null])).2.1 = 54 := by rw [wr_n, m5]
  have p5x : rd (wr V5 0 (oC 8 [.ref 1, .int (J 0), .ref 2, .ref 4, .ref 8, .ref 12, .ref 16, .ref 20, .null, .null, .null, .null, .null])) 0 = oC 8 [.ref 1, .int (J 0), .ref 2, .ref 4, .ref 8, .ref 12, .ref 16, .ref 20, .null, .null, .null, .null, .null] := rd_wr_same
  obtain ⟨V6, g6, q6, f6, z6⟩ := c50_2 (nat := gNatNo) (d := d + 22) (w := (al (wr V5 0 (oC 8 [.ref 1, .int (J 0), .ref 2, .ref 4, .ref 8, .ref 12, .ref 16, .ref 20, .null, .null, .null, .null, .null])) (oC 6 [.int 0, .int 0, .null]) 3)) (x := 54) (rd_al_n (by rw [y5])) (by rw [al_n, y5]) (by omega)
  have u6 : rd V6 0 = oC 8 [.ref 1, .int (J 0), .ref 2, .ref 4, .ref 8, .ref 12, .ref 16, .ref 20, .null, .null, .null, .null, .null] := (f6 0 (by omega)).trans ((rd_al_o (by rw [y5]; omega)).trans p5x)
  have F6 : ∀ q, q < 54 → rd V6 q = rd (wr V5 0 (oC 8 [.ref 1, .int (J 0), .ref 2, .ref 4, .ref 8, .ref 12, .ref 16, .ref 20, .null, .null, .null, .null, .null])) q := fun q hq => (f6 q hq).trans (rd_al_o (by rw [y5]; omega))
  have m6 : V6.2.1 = 64 := by rw [z6]
  have y6 : (wr V6 0 (oC 8 [.ref 1, .int (J 0), .ref 2, .ref 4, .ref 8, .ref 12, .ref 16, .ref 20, .ref 54, .null, .null, .null, .null])).2.1 = 64 := by rw [wr_n, m6]
  have p6x : rd (wr V6 0 (oC 8 [.ref 1, .int (J 0), .ref 2, .ref 4, .ref 8, .ref 12, .ref 16, .ref 20, .ref 54, .null, .null, .null, .null])) 0 = oC 8 [.ref 1, .int (J 0), .ref 2, .ref 4, .ref 8, .ref 12, .ref 16, .ref 20, .ref 54, .null, .null, .null, .null] := rd_wr_same
  obtain ⟨V7, g7, q7, f7, z7⟩ := c41 (nat := gNatNo) (d := d + 23) (w := (al (wr V6 0 (oC 8 [.ref 1, .int (J 0), .ref 2, .ref 4, .ref 8, .ref 12, .ref 16, .ref 20, .ref 54, .null, .null, .null, .null])) (oC 5 [.int 0, .int 0, .int 0, .int 0, .int 0, .null, .null, .null, .null]) 9)) (m := 64) (rd_al_n (by rw [y6])) (by rw [al_n, y6]) (by omega)
  have u7 : rd V7 0 = oC 8 [.ref 1, .int (J 0), .ref 2, .ref 4, .ref 8, .ref 12, .ref 16, .ref 20, .ref 54, .null, .null, .null, .null] := (f7 0 (by omega)).trans ((rd_al_o (by rw [y6]; omega)).trans p6x)
  have F7 : ∀ q, q < 64 → rd V7 q = rd (wr V6 0 (oC 8 [.ref 1, .int (J 0), .ref 2, .ref 4, .ref 8, .ref 12, .ref 16, .ref 20, .ref 54, .null, .null, .null, .null])) q := fun q hq => (f7 q hq).trans (rd_al_o (by rw [y6]; omega))
  have m7 : V7.2.1 = 69 := by rw [z7]
  have y7 : (wr V7 0 (oC 8 [.ref 1, .int (J 0), .ref 2, .ref 4, .ref 8, .ref 12, .ref 16, .ref 20, .ref 54, .ref 64, .null, .null, .null])).2.1 = 69 := by rw [wr_n, m7]
  have p7x : rd (wr V7 0 (oC 8 [.ref 1, .int (J 0), .ref 2, .ref 4, .ref 8, .ref 12, .ref 16, .ref 20, .ref 54, .ref 64, .null, .null, .null])) 0 = oC 8 [.ref 1, .int (J 0), .ref 2, .ref 4, .ref 8, .ref 12, .ref 16, .ref 20, .ref 54, .ref 64, .null, .null, .null] := rd_wr_same
  obtain ⟨V8, g8, q8, f8, z8⟩ := c6 (nat := gNatNo) (d := d + 23) (w := (al (wr V7 0 (oC 8 [.ref 1, .int (J 0), .ref 2, .ref 4, .ref 8, .ref 12, .ref 16, .ref 20, .ref 54, .ref 64, .null, .null, .null])) (oC 1 [.null]) 1)) (m := 69) (rd_al_n (by rw [y7])) (by rw [al_n, y7]) (by omega)
  have u8 : rd V8 0 = oC 8 [.ref 1, .int (J 0), .ref 2, .ref 4, .ref 8, .ref 12, .ref 16, .ref 20, .ref 54, .ref 64, .null, .null, .null] := (f8 0 (by omega)).trans ((rd_al_o (by rw [y7]; omega)).trans p7x)
  have F8 : ∀ q, q < 69 → rd V8 q = rd (wr V7 0 (oC 8 [.ref 1, .int (J 0), .ref 2, .ref 4, .ref 8, .ref 12, .ref 16, .ref 20, .ref 54, .ref 64, .null, .null, .null])) q := fun q hq => (f8 q hq).trans (rd_al_o (by rw [y7]; omega))
  have m8 : V8.2.1 = 71 := by rw [z8]
  have y8 : (wr V8 0 (oC 8 [.ref 1, .int (J 0), .ref 2, .ref 4, .ref 8, .ref 12, .ref 16, .ref 20, .ref 54, .ref 64, .ref 69, .null, .null])).2.1 = 71 := by rw [wr_n, m8]
  have p8x : rd (wr V8 0 (oC 8 [.ref 1, .int (J 0), .ref 2, .ref 4, .ref 8, .ref 12, .ref 16, .ref 20, .ref 54, .ref 64, .ref 69, .null, .null])) 0 = oC 8 [.ref 1, .int (J 0), .ref 2, .ref 4, .ref 8, .ref 12, .ref 16, .ref 20, .ref 54, .ref 64, .ref 69, .null, .null] := rd_wr_same
  obtain ⟨V9, g9, q9, f9, z9⟩ := c35 (nat := gNatNo) (d := d + 22) (w := (al (wr V8 0 (oC 8 [.ref 1, .int (J 0), .ref 2, .ref 4, .ref 8, .ref 12, .ref 16, .ref 20, .ref 54, .ref 64, .ref 69, .null, .null])) (oC 4 [.int 0, .int 0, .null, .null, .null, .int 0, .int 0]) 7)) (x := 71) (rd_al_n (by rw [y8])) (by rw [al_n, y8]) (by omega)
  have u9 : rd V9 0 = oC 8 [.ref 1, .int (J 0), .ref 2, .ref 4, .ref 8, .ref 12, .ref 16, .ref 20, .ref 54, .ref 64, .ref 69, .null, .null] := (f9 0 (by omega)).trans ((rd_al_o (by rw [y8]; omega)).trans p8x)
  have F9 : ∀ q, q < 71 → rd V9 q = rd (wr V8 0 (oC 8 [.ref 1, .int (J 0), .ref 2, .ref 4, .ref 8, .ref 12, .ref 16, .ref 20, .ref 54, .ref 64, .ref 69, .null, .null])) q := fun q hq => (f9 q hq).trans (rd_al_o (by rw [y8]; omega))
  have m9 : V9.2.1 = 91 := by rw [z9]
  have y9 : (wr V9 0 (oC 8 [.ref 1, .int (J 0), .ref 2, .ref 4, .ref 8, .ref 12, .ref 16, .ref 20, .ref 54, .ref 64, .ref 69, .ref 71, .null])).2.1 = 91 := by rw [wr_n, m9]
  have p9x : rd (wr V9 0 (oC 8 [.ref 1, .int (J 0), .ref 2, .ref 4, .ref 8, .ref 12, .ref 16, .ref 20, .ref 54, .ref 64, .ref 69, .ref 71, .null])) 0 = oC 8 [.ref 1, .int (J 0), .ref 2, .ref 4, .ref 8, .ref 12, .ref 16, .ref 20, .ref 54, .ref 64, .ref 69, .ref 71, .null] := rd_wr_same
  obtain ⟨V10, g10, q10, f10, z10⟩ := c0 (nat := gNatNo) (d := d + 23) (w := (al (wr V9 0 (oC 8 [.ref 1, .int (J 0), .ref 2, .ref 4, .ref 8, .ref 12, .ref 16, .ref 20, .ref 54, .ref 64, .ref 69, .ref 71, .null])) (oC 0 [.int 0, .null, .null, .null, .null]) 5)) (m := 91) (rd_al_n (by rw [y9])) (by rw [al_n, y9]) (by omega)
  have u10 : rd V10 0 = oC 8 [.ref 1, .int (J 0), .ref 2, .ref 4, .ref 8, .ref 12, .ref 16, .ref 20, .ref 54, .ref 64, .ref 69, .ref 71, .null] := (f10 0 (by omega)).trans ((rd_al_o (by rw [y9]; omega)).trans p9x)
  have F10 : ∀ q, q < 91 → rd V10 q = rd (wr V9 0 (oC 8 [.ref 1, .int (J 0), .ref 2, .ref 4, .ref 8, .ref 12, .ref 16, .ref 20, .ref 54, .ref 64, .ref 69, .ref 71, .null])) q := fun q hq => (f10 q hq).trans (rd_al_o (by rw [y9]; omega))
  have m10 : V10.2.1 = 96 := by rw [z10]
  have y10 : (wr V10 0 (oC 8 [.ref 1, .int (J 0), .ref 2, .ref 4, .ref 8, .ref 12, .ref 16, .ref 20, .ref 54, .ref 64, .ref 69, .ref 71, .ref 91])).2.1 = 96 := by rw [wr_n, m10]
  have p10x : rd (wr V10 0 (oC 8 [.ref 1, .int (J 0), .ref 2, .ref 4, .ref 8, .ref 12, .ref 16, .ref 20, .ref 54, .ref 64, .ref 69, .ref 71, .ref 91])) 0 = oC 8 [.ref 1, .int (J 0), .ref 2, .ref 4, .ref 8, .ref 12, .ref 16, .ref 20, .ref 54, .ref 64, .ref 69, .ref 71, .ref 91] := rd_wr_same
  have G10 : ∀ q, q ≠ 0 → rd (wr V10 0 (oC 8 [.ref 1, .int (J 0), .ref 2, .ref 4, .ref 8, .ref 12, .ref 16, .ref 20, .ref 54, .ref 64, .ref 69, .ref 71, .ref 91])) q = rd V10 q := fun q hq => rd_wr_ne hq
  have G9 : ∀ q, q ≠ 0 → q < 91 → rd (wr V10 0 (oC 8 [.ref 1, .int (J 0), .ref 2, .ref 4, .ref 8, .ref 12, .ref 16, .ref 20, .ref 54, .ref 64, .ref 69, .ref 71, .ref 91])) q = rd V9 q := fun q q0 q1 => (G10 q q0).trans ((F10 q q1).trans (rd_wr_ne q0))
  have G8 : ∀ q, q ≠ 0 → q < 71 → rd (wr V10 0 (oC 8 [.ref 1, .int (J 0), .ref 2, .ref 4, .ref 8, .ref 12, .ref 16, .ref 20, .ref 54, .ref 64, .ref 69, .ref 71, .ref 91])) q = rd V8 q := fun q q0 q1 => (G9 q q0 (by omega)).trans ((F9 q q1).trans (rd_wr_ne q0))
  have G7 : ∀ q, q ≠ 0 → q < 69 → rd (wr V10 0 (oC 8 [.ref 1, .int (J 0), .ref 2, .ref 4, .ref 8, .ref 12, .ref 16, .ref 20, .ref 54, .ref 64, .ref 69, .ref 71, .ref 91])) q = rd V7 q := fun q q0 q1 => (G8 q q0 (by omega)).trans ((F8 q q1).trans (rd_wr_ne q0))
  have G6 : ∀ q, q ≠ 0 → q < 64 → rd (wr V10 0 (oC 8 [.ref 1, .int (J 0), .ref 2, .ref 4, .ref 8, .ref 12, .ref 16, .ref 20, .ref 54, .ref 64, .ref 69, .ref 71, .ref 91])) q = rd V6 q := fun q q0 q1 => (G7 q q0 (by omega)).trans ((F7 q q1).trans (rd_wr_ne q0))
  have G5 : ∀ q, q ≠ 0 → q < 54 → rd (wr V10 0 (oC 8 [.ref 1, .int (J 0), .ref 2, .ref 4, .ref 8, .ref 12, .ref 16, .ref 20, .ref 54, .ref 64, .ref 69, .ref 71, .ref 91])) q = rd V5 q := fun q q0 q1 => (G6 q q0 (by omega)).trans ((F6 q q1).trans (rd_wr_ne q0))
  have G4 : ∀ q, q ≠ 0 → q < 20 → rd (wr V10 0 (oC 8 [.ref 1, .int (J 0), .ref 2, .ref 4, .ref 8, .ref 12, .ref 16, .ref 20, .ref 54, .ref 64, .ref 69, .ref 71, .ref 91])) q = rd V4 q := fun q q0 q1 => (G5 q q0 (by omega)).trans ((F5 q q1).trans (rd_wr_ne q0))
  have G3 : ∀ q, q ≠ 0 → q < 16 → rd (wr V10 0 (oC 8 [.ref 1, .int (J 0), .ref 2, .ref 4, .ref 8, .ref 12, .ref 16, .ref 20, .ref 54, .ref 64, .ref 69, .ref 71, .ref 91])) q = rd V3 q := fun q q0 q1 => (G4 q q0 (by omega)).trans ((F4 q q1).trans (rd_wr_ne q0))
  have G2 : ∀ q, q ≠ 0 → q < 12 → rd (wr V10 0 (oC 8 [.ref 1, .int (J 0), .ref 2, .ref 4, .ref 8, .ref 12, .ref 16, .ref 20, .ref 54, .ref 64, .ref 69, .ref 71, .ref 91])) q = rd V2 q := fun q q0 q1 => (G3 q q0 (by omega)).trans ((F3 q q1).trans (rd_wr_ne q0))
  have G1 : ∀ q, q ≠ 0 → q < 8 → rd (wr V10 0 (oC 8 [.ref 1, .int (J 0), .ref 2, .ref 4, .ref 8, .ref 12, .ref 16, .ref 20, .ref 54, .ref 64, .ref 69, .ref 71, .ref 91])) q = rd V1 q := fun q q0 q1 => (G2 q q0 (by omega)).trans ((F2 q q1).trans (rd_wr_ne q0))
  have G0 : ∀ q, q ≠ 0 → q < 4 → rd (wr V10 0 (oC 8 [.ref 1, .int (J 0), .ref 2, .ref 4, .ref 8, .ref 12, .ref 16, .ref 20, .ref 54, .ref 64, .ref 69, .ref 71, .ref 91])) q = rd V0 q := fun q q0 q1 => (G1 q q0 (by omega)).trans ((F1 q q1).trans (rd_wr_ne q0))
  have Gt : ∀ q, q ≠ 0 → q < 2 → rd (wr V10 0 (oC 8 [.ref 1, .int (J 0), .ref 2, .ref 4, .ref 8, .ref 12, .ref 16, .ref 20, .ref 54, .ref 64, .ref 69, .ref 71, .ref 91])) q = rd (wr (wr (al w (iC 200 (fun _ => 0)) 200) 0 (oC 8 [.ref 1, .int 0, .null, .null, .null, .null, .null, .null, .null, .null, .null, .null, .null])) 0 (oC 8 [.ref 1, .int (J 0), .null, .null, .null, .null, .null, .null, .null, .null, .null, .null, .null])) q := fun q q0 q1 => (G0 q q0 (by omega)).trans (F0 q q1)
  refine ⟨(wr V10 0 (oC 8 [.ref 1, .int (J 0), .ref 2, .ref 4, .ref 8, .ref 12, .ref 16, .ref 20, .ref 54, .ref 64, .ref 69, .ref 71, .ref 91])), ?_, ⟨p10x, (by rw [Gt 1 (by omega) (by omega), t1, eI_zero]; rfl), ⟨0, 1, fun _ => 0, by rw [G0 2 (by omega) (by omega)]; exact q0.1, by rw [G0 3 (by omega) (by omega)]; exact q0.2⟩, (isMe_fr q1 (fun z z1 z2 => G1 z (by omega) (by omega))), ⟨zL, isMe_fr q2 (fun z z1 z2 => G2 z (by omega) (by omega))⟩, (isSt_fr q3 (fun z z1 z2 => G3 z (by omega) (by omega))), nS_z, ⟨zL, isSt_fr q4 (fun z z1 z2 => G4 z (by omega) (by omega)), nS_z⟩, (isSh_fr q5 (fun z z1 z2 => G5 z (by omega) (by omega))), (isSh_fr q6 (fun z z1 z2 => G6 z (by omega) (by omega))), ⟨0, -4, -4, -4, fun _ => 0, by rw [G7 64 (by omega) (by omega)]; exact q7.1, by rw [G7 65 (by omega) (by omega)]; exact q7.2.1, by rw [G7 66 (by omega) (by omega)]; exact q7.2.2.1, by rw [G7 67 (by omega) (by omega)]; exact q7.2.2.2.1, by rw [G7 68 (by omega) (by omega)]; exact q7.2.2.2.2, fun _ _ => rfl⟩, ⟨⟨by omega, by rw [G8 69 (by omega) (by omega)]; exact q8.1⟩, fun _ => 0, by rw [G8 70 (by omega) (by omega)]; exact q8.2, fun _ _ => rfl⟩, ⟨_, _, _, _, _, isRo_fr q9 (fun z z1 z2 => G9 z (by omega) (by omega))⟩, ⟨0, fun _ => 0, fun _ => 0, fun _ => 0, fun _ => 0, by rw [G10 91 (by omega)]; exact q10.1, by rw [G10 92 (by omega)]; exact q10.2.1, by rw [G10 93 (by omega)]; exact q10.2.2.1, by rw [G10 94 (by omega)]; exact q10.2.2.2.1, by rw [G10 95 (by omega)]; exact q10.2.2.2.2, fun _ => (by decide : (0 : Nat) < 16), fun _ => (by decide : (0 : Nat) < 65536)⟩, Or.inl ⟨rfl, rfl⟩⟩, ?_⟩
  · skip
    simp (disch := first | omega) only [e75_0, e75_1, e75_4, e75_5, e75_8, e75_10, e75_13, e75_14, e75_15, e75_18, e75_19, e75_22, e75_22i, e75_23, e75_26, e75_29, e75_30, e75_33, e75_33i, e75_34, e75_37, e75_40, e75_41, e75_44, e75_44i, e75_45, e75_48, e75_51, e75_52, e75_55, e75_55i, e75_56, e75_59, e75_62, e75_63, e75_66, e75_66i, e75_67, e75_70, e75_73, e75_74, e75_77, e75_77i, e75_78, e75_80, e75_83, e75_86, e75_87, e75_90, e75_90i, e75_91, e75_92, e75_95, e75_98, e75_99, e75_102, e75_102i, e75_103, e75_106, e75_109, e75_110, e75_113, e75_113i, e75_114, e75_117, e75_120, e75_121, e75_124, e75_124i, e75_125, e75_128, e75_131, e75_132, e75_135, e75_135i, e75_136, e75_139, e75_144, e75_147, e75_150, e75_153, e75_154, e75_155, e75_157, e75_158, e75_161, e75_162, e75_165, e75_166, e75_168, e75_169, e75_172, e75_175, e75_178, e75_182, e75_185, e75_186, e75_189, e75_190, e75_191, e75_194, e75_197, e75_198, e75_199, e75_202, J_add, J_sub, J_mul, J_neg, J_lt, J_le, J_eq, gArr_J, gAst_J, gSiz_J, gFld_o, gUpd_o0, gUpd_o1, gUpd_o2, gUpd_o3, gUpd_o4, gUpd_o5, gUpd_o6, gUpd_o7, gUpd_o8, gUpd_o9, gUpd_o10, gUpd_o11, gUpd_o12, gUpd_o13, gUpd_o14, gUpd_o15, gUpd_o16, gUpd_o17, gUpd_o18, gIsO_o, Option.bind_some, List.getElem?_cons_zero, List.getElem?_cons_succ, List.length_cons, List.length_nil, List.set_cons_zero, List.set_cons_succ, gCat_nil, gCat_int, gCat_ref, if_pos, if_neg, Option.toList_some, Option.toList_none, List.cons_append, List.nil_append, B_nar, J1_nar, J0_nar, if_true, if_false, rd_wr_same, rd_wr_ne, true_and, and_true, B_0, B_1, not_true_eq_false, not_false_eq_true, h, hn, a0, o0, n1, w1, p1, g0, u0, y0, p0x, g1, u1, y1, p1x, g2, u2, y2, p2x, g3, u3, y3, p3x, g4, u4, y4, p4x, g5, u5, y5, p5x, g6, u6, y6, p6x, g7, u7, y7, p7x, g8, u8, y8, p8x, g9, u9, y9, p9x, g10, u10, y10, p10x, cl3, nw3, cl4, nw4, cl5, nw5, cl8, nw8, cl12, nw12, cl40, nw40, cl64, nw64, cl200, nw200, cl2, nw2, cl17, nw17, cl65, nw65, cl136, nw136, cl34, nw34]
  · refine Prod.ext (by rw [y10]) ?_
    simp only [wr_k, al_k, z0, z1, z2, z3, z4, z5, z6, z7, z8, z9, z10, hk, Nat.reduceAdd]

theorem c75n {nat : gNat} {d : Nat} {w : gWd} (hs : sNat nat) (h : rd w 0 = oC 8 [.null, .int 0, .null, .null, .null, .null, .null, .null, .null, .null, .null, .null, .null]) (hn : w.2.1 = 1) (hk : w.2.2 = 13) : ∃ w', gX (gC gNatNo (d + 24)) nat 75 0 [some (.ref 0), none, none] [] [] w = some (none, w') ∧ isX w' 4 8 X00 K0 (begS K0) (fun _ => zL) (fun _ => zL) ∧ w'.2 = (96, 853) := by
  obtain ⟨w1, g1, hX, g3⟩ := c75n0 (nat := nat) (d := d) (w := w) h hn hk
  have hb := gSTR_big
  obtain ⟨i0, iT, iR, iK, iQ, iS, inS, iTr, iP, iKp, iE, iH, iW, iD, hpq⟩ := id hX
  obtain ⟨w2, k1, k2, k3, k4⟩ := l75n (nat := nat) hs (d := d + 23) rfl 135 0 w1 rfl i0 (by
    rw [iT]
    congr 2
    funext j
    unfold nL
    rw [if_neg (by omega)]
    rfl)
  have F2 : ∀ z, z ≠ 1 → rd w2 z = rd w1 z := k3
  obtain ⟨am, on, N0, eR⟩ := cR_put (cR_fr (w' := w2) iR (fun z z1 z2 => F2 z (by omega)))
  have iK2 := isMe_fr (w' := w2) iK (fun z z1 z2 => F2 z (by omega))
  have hq := putK_self iK2
  obtain ⟨am', on', N', c1⟩ := s26 (nat := gNatNo) (d := d + 19) (w := w2) (x := 2) (t := 1) (m := 4) (T := tL) (L := 135) (by omega) (by omega) (by omega) (by omega) (by omega) (by omega) k2 tL_in (by omega) (am := am) (on := on) (N := N0) (K := zL)
  rw [hq, ← eR] at c1
  have c1' : gC gNatNo (d + 24) 26 [.ref 2, .ref 1, .int (J 135), .ref 4] w2 = some (some (.int (J (rdl (ltr tL 135) 135 135 0 1 (clrK zL)).1)), putR (putK w2 4 K0) 2 am' on' N') := c1
  have F : ∀ z, (z ≠ 1 ∧ (z < 2 ∨ 3 < z) ∧ (z < 4 ∨ 7 < z)) → rd (putR (putK w2 4 K0) 2 am' on' N') z = rd w1 z := fun z hz => by rw [rdRn (by omega), rdKn (by omega), F2 z hz.1]
  have f1 : rd (putR (putK w2 4 K0) 2 am' on' N') 1 = iC 200 (eI tL) := by rw [rdRn (by omega), rdKn (by omega)]; exact k2
  have hX3 : isX (putR (putK w2 4 K0) 2 am' on' N') 4 8 X00 K0 zL (fun _ => zL) (fun _ => zL) := ⟨(by rw [F 0 (by omega)]; exact i0), f1, cR_of, (isMe_fr (isMe_putK (by omega)) (fun z z1 z2 => rdRn (by omega))), (cQ_fr iQ (fun z z1 z2 => F z (by omega))), (isSt_fr iS (fun z z1 z2 => F z (by omega))), inS, (cTr_fr iTr (fun z z1 z2 => F z (by omega))), (isSh_fr iP (fun z z1 z2 => F z (by omega))), (isSh_fr iKp (fun z z1 z2 => F z (by omega))), (cE_fr iE (fun z z1 z2 => F z (by omega))), (cH_fr iH (fun z z1 z2 => F z (by omega))), (cW_fr iW (fun z z1 z2 => F z (by omega))), (cD_fr iD (fun z z1 z2 => F z (by omega))), hpq⟩
  obtain ⟨w', e1, e2, e3, e4, e5⟩ := s104 (nat := gNatNo) (d := d + 21) hX3 vK_K0
  have e0 : (sset (sset (sset X00 0 1 0) 0 3 0) 0 4 0) = X00 := by
    funext a i
    unfold sset X00
    repeat' split
    all_goals first | rfl | omega
  rw [e0] at e2
  refine ⟨w', ?_, e2, by rw [e5]; show w2.2 = _; rw [k4, g3]⟩
  obtain ⟨r0, r1, r2⟩ := hs
  obtain ⟨am3, on3, N3, rr0, rr1⟩ := cR_fr (w' := w2) iR (fun z z1 z2 => F2 z (by omega))
  have f0 : rd w2 0 = _ := (F2 0 (by omega)).trans i0
  have f3 : rd (putR (putK w2 4 K0) 2 am' on' N') 0 = _ := (F 0 (by omega)).trans i0
  rw [show ((0 : Nat) : Int) = 0 from rfl] at k1
  rw [g1, e75_142]
  simp (disch := first | omega | exact Nat.le_of_ble_eq_true rfl) only [e75_0, e75_1, e75_4, e75_5, e75_8, e75_10, e75_13, e75_14, e75_15, e75_18, e75_19, e75_22, e75_22i, e75_23, e75_26, e75_29, e75_30, e75_33, e75_33i, e75_34, e75_37, e75_40, e75_41, e75_44, e75_44i, e75_45, e75_48, e75_51, e75_52, e75_55, e75_55i, e75_56, e75_59, e75_62, e75_63, e75_66, e75_66i, e75_67, e75_70, e75_73, e75_74, e75_77, e75_77i, e75_78, e75_80, e75_83, e75_86, e75_87, e75_90, e75_90i, e75_91, e75_92, e75_95, e75_98, e75_99, e75_102, e75_102i, e75_103, e75_106, e75_109, e75_110, e75_113, e75_113i, e75_114, e75_117, e75_120, e75_121, e75_124, e75_124i, e75_125, e75_128, e75_131, e75_132, e75_135, e75_135i, e75_136, e75_139, e75_144, e75_147, e75_150, e75_153, e75_154, e75_155, e75_157, e75_158, e75_161, e75_162, e75_165, e75_166, e75_168, e75_169, e75_172, e75_175, e75_178, e75_182, e75_185, e75_186, e75_189, e75_190, e75_191, e75_194, e75_197, e75_198, e75_199, e75_202, J_add, J_sub, J_mul, J_neg, J_lt, J_le, J_eq, gArr_J, gAst_J, gSiz_J, gFld_o, gUpd_o0, gUpd_o1, gUpd_o2, gUpd_o3, gUpd_o4, gUpd_o5, gUpd_o6, gUpd_o7, gUpd_o8, gUpd_o9, gUpd_o10, gUpd_o11, gUpd_o12, gUpd_o13, gUpd_o14, gUpd_o15, gUpd_o16, gUpd_o17, gUpd_o18, gIsO_o, Option.bind_some, List.getElem?_cons_zero, List.getElem?_cons_succ, List.length_cons, List.length_nil, List.set_cons_zero, List.set_cons_succ, gCat_nil, gCat_int, gCat_ref, if_pos, if_neg, Option.toList_some, Option.toList_none, List.cons_append, List.nil_append, B_nar, J1_nar, J0_nar, if_true, if_false, rd_wr_same, rd_wr_ne, true_and, and_true, B_0, B_1, not_true_eq_false, not_false_eq_true, r0, r1]
  rw [k1, e75_181]
  simp (disch := first | omega | exact Nat.le_of_ble_eq_true rfl) only [e75_0, e75_1, e75_4, e75_5, e75_8, e75_10, e75_13, e75_14, e75_15, e75_18, e75_19, e75_22, e75_22i, e75_23, e75_26, e75_29, e75_30, e75_33, e75_33i, e75_34, e75_37, e75_40, e75_41, e75_44, e75_44i, e75_45, e75_48, e75_51, e75_52, e75_55, e75_55i, e75_56, e75_59, e75_62, e75_63, e75_66, e75_66i, e75_67, e75_70, e75_73, e75_74, e75_77, e75_77i, e75_78, e75_80, e75_83, e75_86, e75_87, e75_90, e75_90i, e75_91, e75_92, e75_95, e75_98, e75_99, e75_102, e75_102i, e75_103, e75_106, e75_109, e75_110, e75_113, e75_113i, e75_114, e75_117, e75_120, e75_121, e75_124, e75_124i, e75_125, e75_128, e75_131, e75_132, e75_135, e75_135i, e75_136, e75_139, e75_144, e75_147, e75_150, e75_153, e75_154, e75_155, e75_157, e75_158, e75_161, e75_162, e75_165, e75_166, e75_168, e75_169, e75_172, e75_175, e75_178, e75_182, e75_185, e75_186, e75_189, e75_190, e75_191, e75_194, e75_197, e75_198, e75_199, e75_202, J_add, J_sub, J_mul, J_neg, J_lt, J_le, J_eq, gArr_J, gAst_J, gSiz_J, gFld_o, gUpd_o0, gUpd_o1, gUpd_o2, gUpd_o3, gUpd_o4, gUpd_o5, gUpd_o6, gUpd_o7, gUpd_o8, gUpd_o9, gUpd_o10, gUpd_o11, gUpd_o12, gUpd_o13, gUpd_o14, gUpd_o15, gUpd_o16, gUpd_o17, gUpd_o18, gIsO_o, Option.bind_some, List.getElem?_cons_zero, List.getElem?_cons_succ, List.length_cons, List.length_nil, List.set_cons_zero, List.set_cons_succ, gCat_nil, gCat_int, gCat_ref, if_pos, if_neg, Option.toList_some, Option.toList_none, List.cons_append, List.nil_append, B_nar, J1_nar, J0_nar, if_true, if_false, rd_wr_same, rd_wr_ne, true_and, and_true, B_0, B_1, not_true_eq_false, not_false_eq_true, f0, rr0, f3, c1', e1]
