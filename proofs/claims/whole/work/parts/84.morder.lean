theorem code_ne {B c : Nat} (hB : 0 < B) (h1 : 1 ≤ c) (h2 : c < B * (B * B)) : 0 ≤ dig B c 0 ∨ 0 ≤ dig B c 1 ∨ 0 ≤ dig B c 2 := by
  apply Classical.byContradiction
  intro hn
  have e0 : dig B c 0 = ((c / B / B % B : Nat) : Int) - 1 := rfl
  have e1 : dig B c 1 = ((c / B % B : Nat) : Int) - 1 := rfl
  have e2 : dig B c 2 = ((c % B : Nat) : Int) - 1 := rfl
  have h3 : c / B / B < B := by
    rw [Nat.div_div_eq_div_mul]
    exact Nat.div_lt_of_lt_mul (by rw [Nat.mul_assoc]; exact h2)
  have m0 : c / B / B = 0 := by
    have := Nat.mod_eq_of_lt h3
    omega
  have d1 := Nat.div_add_mod (c / B) B
  rw [m0, Nat.mul_zero] at d1
  have m1 : c / B = 0 := by omega
  have d2 := Nat.div_add_mod c B
  rw [m1, Nat.mul_zero] at d2
  omega
theorem vh_in {K S : Lay} (hK : vK K) (hS : vS K S) {y n : Int} (hy : 0 ≤ y ∧ y < K 0 2) (hn : 0 ≤ n) {D : Nat → Int} (hD : ∀ k, -1 ≤ D k ∧ D k < K 0 1) {h : Int} (hv : vhD K S y n D = some h) : 0 ≤ h ∧ h ≤ n := by
  have hg : gdd (cb K S) D 3 = true := by
    apply Classical.byContradiction
    intro z
    rw [vh_bad hK hS hy hn hD z] at hv
    exact absurd hv (by simp)
  have hp : 0 ≤ D 0 := by
    apply Classical.byContradiction
    intro z
    unfold vhD at hv
    rw [if_neg (by omega)] at hv
    exact absurd hv (by simp)
  obtain ⟨v1, v2⟩ := vh_good (y := y) (n := n) hD hg (Or.inl hp)
  rw [v1] at hv
  rcases hr : rw2 K S y n D (mny D 3).toNat with _ | ⟨h1, T⟩
  · rw [hr] at hv
    exact absurd hv (by simp)
  · rw [hr] at hv
    have e : h1 = h := Option.some.inj hv
    have := rw2_inv hK hS hy hn _ (fun j hj => ⟨(v2 j hj).1, (hD j).2⟩) h1 T hr
    omega
theorem rfo_in {K S : Lay} (hK : vK K) (hS : vS K S) {y n : Int} (hy : 0 ≤ y ∧ y < K 0 2) (hn : 0 ≤ n) : ∀ c : Nat, (rfo K S y n ((K 0 1).toNat + 1) c).1 ≤ c ∧ 0 ≤ (rfo K S y n ((K 0 1).toNat + 1) c).2 ∧ (rfo K S y n ((K 0 1).toNat + 1) c).2 ≤ n := by
  intro c
  induction c with
  | zero => exact ⟨Nat.le_refl 0, Int.le_refl 0, hn⟩
  | succ c ih =>
    rw [rfo]
    rcases hv : vhD K S y n (dig ((K 0 1).toNat + 1) c) with _ | h
    · dsimp only
      omega
    · have := vh_in hK hS hy hn (fun k => digK hK) hv
      dsimp only
      split
      · exact ⟨Nat.le_succ c, this⟩
      · omega

theorem l170 {nat : gNat} {d : Nat} {w : gWd} {x : Nat} {M K : Lay} (hx : x + 12 < gSTR) (hL : mLaw K (M 5)) (hK : vK K) {S : Lay} (hR : mRow K S (M 6)) (hS : vS K S) (hH : 0 ≤ S 0 0 ∧ S 0 0 < 1000000) {y n k : Int} (hy : 0 ≤ y ∧ y < K 0 2) (hn : 1 ≤ n ∧ n ≤ 24) (hk : -1 ≤ k ∧ k ≤ 3) {P : Nat} (hP : P = ((K 0 1).toNat + 1) * (((K 0 1).toNat + 1) * ((K 0 1).toNat + 1))) : ∀ (j c : Nat) (f : Int → Int) (z8 z9 : Option Value), c + j = P → 1 ≤ c → ∃ f', gX (gC nat (d + 6)) nat 170 48 [some (.ref x), some (.int (J y)), some (.int (J n)), some (.int (J k)), some (.int (J (K 0 1 + 1))), some (.int (J ((rfo K S y n ((K 0 1).toNat + 1) c).1 : Nat))), some (.int (J (rfo K S y n ((K 0 1).toNat + 1) c).2)), some (.int (J (c : Nat))), z8, z9] [] [] (putM w x (rset M 7 f)) = some (some (.int (J (if k = -1 then mny (dig ((K 0 1).toNat + 1) (rfo K S y n ((K 0 1).toNat + 1) P).1) 3 else if k = 3 then (rfo K S y n ((K 0 1).toNat + 1) P).2 else if dig ((K 0 1).toNat + 1) (rfo K S y n ((K 0 1).toNat + 1) P).1 k.toNat < 0 then -4 else dig ((K 0 1).toNat + 1) (rfo K S y n ((K 0 1).toNat + 1) P).1 k.toNat))), putM w x (rset M 7 f')) := by
  obtain ⟨k0, k1, k2, k3, k4, kg, kd, kr⟩ := id hK
  obtain ⟨f0, f1, f2, f3, f4, fr, fg, fd⟩ := id hL
  have hPl : P ≤ 729 := by
    rw [hP]
    have h9 : (K 0 1).toNat + 1 ≤ 9 := by omega
    exact Nat.mul_le_mul h9 (Nat.mul_le_mul h9 h9)
  have eP : (K 0 1 + 1) * (K 0 1 + 1) * (K 0 1 + 1) = (P : Int) := by
    have e : (((K 0 1).toNat + 1 : Nat) : Int) = K 0 1 + 1 := by omega
    rw [hP, Int.natCast_mul, Int.natCast_mul, e, Int.mul_assoc]
  intro j
  induction j with
  | zero =>
    intro c f z8 z9 hc hc1
    rw [Nat.add_zero] at hc
    subst hc
    have hi := rfo_in hK hS hy (by omega : 0 ≤ n) c
    have c1 := s169 (nat := nat) (d := d + 4) (w := w) (M := rset M 7 f) hx (by rw [rset_ne (by decide)]; exact hL) hK (c := ((rfo K S y n ((K 0 1).toNat + 1) c)).1) (by omega)
    have hm := mny_in (dig ((K 0 1).toNat + 1) ((rfo K S y n ((K 0 1).toNat + 1) c)).1) 3
    refine ⟨f, ?_⟩
    rw [e170_48]
    by_cases q1 : k = -1
    · rw [if_pos q1]
      simp (disch := first | omega | exact Nat.le_of_ble_eq_true rfl) only [e170_0, e170_1, e170_2, e170_5, e170_8, e170_9, e170_10, e170_12, e170_15, e170_18, e170_19, e170_20, e170_21, e170_24, e170_27, e170_28, e170_29, e170_30, e170_33, e170_34, e170_35, e170_36, e170_37, e170_39, e170_40, e170_42, e170_43, e170_45, e170_46, e170_50, e170_52, e170_54, e170_55, e170_57, e170_58, e170_61, e170_62, e170_64, e170_67, e170_68, e170_70, e170_73, e170_74, e170_76, e170_78, e170_81, e170_83, e170_86, e170_87, e170_88, e170_89, e170_91, e170_94, e170_96, e170_98, e170_100, e170_103, e170_105, e170_108, e170_110, e170_112, e170_115, e170_117, e170_119, e170_121, e170_123, e170_126, e170_129, e170_130, e170_133, e170_134, e170_135, e170_138, e170_140, e170_143, e170_144, e170_146, e170_147, e170_150, e170_152, e170_153, e170_156, e170_157, e170_159, e170_162, e170_165, e170_166, e170_167, e170_170, e170_172, e170_175, e170_177, e170_180, e170_182, e170_185, e170_187, J_add, J_sub, J_mul, J_neg, J_lt, J_le, J_eq, gArr_J, gAst_J, gSiz_J, gFld_o, gUpd_o0, gUpd_o1, gUpd_o2, gUpd_o3, gUpd_o4, gUpd_o5, gUpd_o6, gUpd_o7, gUpd_o8, gUpd_o9, gUpd_o10, gUpd_o11, gUpd_o12, gUpd_o13, gUpd_o14, gUpd_o15, gUpd_o16, gUpd_o17, gUpd_o18, gIsO_o, Option.bind_some, List.getElem?_cons_zero, List.getElem?_cons_succ, List.length_cons, List.length_nil, List.set_cons_zero, List.set_cons_succ, gCat_nil, gCat_int, gCat_ref, if_pos, if_neg, Option.toList_some, Option.toList_none, List.cons_append, List.nil_append, B_nar, J1_nar, J0_nar, if_true, if_false, rd_wr_same, rd_wr_ne, true_and, and_true, B_0, B_1, not_true_eq_false, not_false_eq_true, rdM0, rdM1, rdM2, rdM3, rdM4, rdM5, rdM6, rdM7, rdM8, rdM9, rdM10, rdM11, rdM12, rset_at, rset_ne, rset_rset, w0M, wZ1, wZ2, wZ3, wZ4, wZ5, wZ6, wZ7, wZ8, wZ9, wZ10, wZ11, wZ12, f7_0, f7_1, f7_2, f7_3, f7_4, f7_5, f7_6, eP, c1]
    · rw [if_neg q1]
      by_cases q2 : k = 3
      · rw [if_pos q2]
        simp (disch := first | omega | exact Nat.le_of_ble_eq_true rfl) only [e170_0, e170_1, e170_2, e170_5, e170_8, e170_9, e170_10, e170_12, e170_15, e170_18, e170_19, e170_20, e170_21, e170_24, e170_27, e170_28, e170_29, e170_30, e170_33, e170_34, e170_35, e170_36, e170_37, e170_39, e170_40, e170_42, e170_43, e170_45, e170_46, e170_50, e170_52, e170_54, e170_55, e170_57, e170_58, e170_61, e170_62, e170_64, e170_67, e170_68, e170_70, e170_73, e170_74, e170_76, e170_78, e170_81, e170_83, e170_86, e170_87, e170_88, e170_89, e170_91, e170_94, e170_96, e170_98, e170_100, e170_103, e170_105, e170_108, e170_110, e170_112, e170_115, e170_117, e170_119, e170_121, e170_123, e170_126, e170_129, e170_130, e170_133, e170_134, e170_135, e170_138, e170_140, e170_143, e170_144, e170_146, e170_147, e170_150, e170_152, e170_153, e170_156, e170_157, e170_159, e170_162, e170_165, e170_166, e170_167, e170_170, e170_172, e170_175, e170_177, e170_180, e170_182, e170_185, e170_187, J_add, J_sub, J_mul, J_neg, J_lt, J_le, J_eq, gArr_J, gAst_J, gSiz_J, gFld_o, gUpd_o0, gUpd_o1, gUpd_o2, gUpd_o3, gUpd_o4, gUpd_o5, gUpd_o6, gUpd_o7, gUpd_o8, gUpd_o9, gUpd_o10, gUpd_o11, gUpd_o12, gUpd_o13, gUpd_o14, gUpd_o15, gUpd_o16, gUpd_o17, gUpd_o18, gIsO_o, Option.bind_some, List.getElem?_cons_zero, List.getElem?_cons_succ, List.length_cons, List.length_nil, List.set_cons_zero, List.set_cons_succ, gCat_nil, gCat_int, gCat_ref, if_pos, if_neg, Option.toList_some, Option.toList_none, List.cons_append, List.nil_append, B_nar, J1_nar, J0_nar, if_true, if_false, rd_wr_same, rd_wr_ne, true_and, and_true, B_0, B_1, not_true_eq_false, not_false_eq_true, rdM0, rdM1, rdM2, rdM3, rdM4, rdM5, rdM6, rdM7, rdM8, rdM9, rdM10, rdM11, rdM12, rset_at, rset_ne, rset_rset, w0M, wZ1, wZ2, wZ3, wZ4, wZ5, wZ6, wZ7, wZ8, wZ9, wZ10, wZ11, wZ12, f7_0, f7_1, f7_2, f7_3, f7_4, f7_5, f7_6, eP]
      · rw [if_neg q2]
        have c2 := s167 (nat := nat) (d := d + 5) (w := w) (M := rset M 7 f) hx (by rw [rset_ne (by decide)]; exact hL) hK (c := ((rfo K S y n ((K 0 1).toNat + 1) c)).1) (k := k.toNat) (by omega) (by omega)
        rw [show ((k.toNat : Nat) : Int) = k from by omega] at c2
        have hdg := digK hK (c := ((rfo K S y n ((K 0 1).toNat + 1) c)).1) (k := k.toNat)
        by_cases q3 : dig ((K 0 1).toNat + 1) ((rfo K S y n ((K 0 1).toNat + 1) c)).1 k.toNat < 0
        · rw [if_pos q3]
          simp (disch := first | omega | exact Nat.le_of_ble_eq_true rfl) only [e170_0, e170_1, e170_2, e170_5, e170_8, e170_9, e170_10, e170_12, e170_15, e170_18, e170_19, e170_20, e170_21, e170_24, e170_27, e170_28, e170_29, e170_30, e170_33, e170_34, e170_35, e170_36, e170_37, e170_39, e170_40, e170_42, e170_43, e170_45, e170_46, e170_50, e170_52, e170_54, e170_55, e170_57, e170_58, e170_61, e170_62, e170_64, e170_67, e170_68, e170_70, e170_73, e170_74, e170_76, e170_78, e170_81, e170_83, e170_86, e170_87, e170_88, e170_89, e170_91, e170_94, e170_96, e170_98, e170_100, e170_103, e170_105, e170_108, e170_110, e170_112, e170_115, e170_117, e170_119, e170_121, e170_123, e170_126, e170_129, e170_130, e170_133, e170_134, e170_135, e170_138, e170_140, e170_143, e170_144, e170_146, e170_147, e170_150, e170_152, e170_153, e170_156, e170_157, e170_159, e170_162, e170_165, e170_166, e170_167, e170_170, e170_172, e170_175, e170_177, e170_180, e170_182, e170_185, e170_187, J_add, J_sub, J_mul, J_neg, J_lt, J_le, J_eq, gArr_J, gAst_J, gSiz_J, gFld_o, gUpd_o0, gUpd_o1, gUpd_o2, gUpd_o3, gUpd_o4, gUpd_o5, gUpd_o6, gUpd_o7, gUpd_o8, gUpd_o9, gUpd_o10, gUpd_o11, gUpd_o12, gUpd_o13, gUpd_o14, gUpd_o15, gUpd_o16, gUpd_o17, gUpd_o18, gIsO_o, Option.bind_some, List.getElem?_cons_zero, List.getElem?_cons_succ, List.length_cons, List.length_nil, List.set_cons_zero, List.set_cons_succ, gCat_nil, gCat_int, gCat_ref, if_pos, if_neg, Option.toList_some, Option.toList_none, List.cons_append, List.nil_append, B_nar, J1_nar, J0_nar, if_true, if_false, rd_wr_same, rd_wr_ne, true_and, and_true, B_0, B_1, not_true_eq_false, not_false_eq_true, rdM0, rdM1, rdM2, rdM3, rdM4, rdM5, rdM6, rdM7, rdM8, rdM9, rdM10, rdM11, rdM12, rset_at, rset_ne, rset_rset, w0M, wZ1, wZ2, wZ3, wZ4, wZ5, wZ6, wZ7, wZ8, wZ9, wZ10, wZ11, wZ12, f7_0, f7_1, f7_2, f7_3, f7_4, f7_5, f7_6, eP, c2]
        · rw [if_neg q3]
          simp (disch := first | omega | exact Nat.le_of_ble_eq_true rfl) only [e170_0, e170_1, e170_2, e170_5, e170_8, e170_9, e170_10, e170_12, e170_15, e170_18, e170_19, e170_20, e170_21, e170_24, e170_27, e170_28, e170_29, e170_30, e170_33, e170_34, e170_35, e170_36, e170_37, e170_39, e170_40, e170_42, e170_43, e170_45, e170_46, e170_50, e170_52, e170_54, e170_55, e170_57, e170_58, e170_61, e170_62, e170_64, e170_67, e170_68, e170_70, e170_73, e170_74, e170_76, e170_78, e170_81, e170_83, e170_86, e170_87, e170_88, e170_89, e170_91, e170_94, e170_96, e170_98, e170_100, e170_103, e170_105, e170_108, e170_110, e170_112, e170_115, e170_117, e170_119, e170_121, e170_123, e170_126, e170_129, e170_130, e170_133, e170_134, e170_135, e170_138, e170_140, e170_143, e170_144, e170_146, e170_147, e170_150, e170_152, e170_153, e170_156, e170_157, e170_159, e170_162, e170_165, e170_166, e170_167, e170_170, e170_172, e170_175, e170_177, e170_180, e170_182, e170_185, e170_187, J_add, J_sub, J_mul, J_neg, J_lt, J_le, J_eq, gArr_J, gAst_J, gSiz_J, gFld_o, gUpd_o0, gUpd_o1, gUpd_o2, gUpd_o3, gUpd_o4, gUpd_o5, gUpd_o6, gUpd_o7, gUpd_o8, gUpd_o9, gUpd_o10, gUpd_o11, gUpd_o12, gUpd_o13, gUpd_o14, gUpd_o15, gUpd_o16, gUpd_o17, gUpd_o18, gIsO_o, Option.bind_some, List.getElem?_cons_zero, List.getElem?_cons_succ, List.length_cons, List.length_nil, List.set_cons_zero, List.set_cons_succ, gCat_nil, gCat_int, gCat_ref, if_pos, if_neg, Option.toList_some, Option.toList_none, List.cons_append, List.nil_append, B_nar, J1_nar, J0_nar, if_true, if_false, rd_wr_same, rd_wr_ne, true_and, and_true, B_0, B_1, not_true_eq_false, not_false_eq_true, rdM0, rdM1, rdM2, rdM3, rdM4, rdM5, rdM6, rdM7, rdM8, rdM9, rdM10, rdM11, rdM12, rset_at, rset_ne, rset_rset, w0M, wZ1, wZ2, wZ3, wZ4, wZ5, wZ6, wZ7, wZ8, wZ9, wZ10, wZ11, wZ12, f7_0, f7_1, f7_2, f7_3, f7_4, f7_5, f7_6, eP, c2]
  | succ j ih =>
    intro c f z8 z9 hc hc1
    have hi := rfo_in hK hS hy (by omega : 0 ≤ n) c
    have c1 := s169 (nat := nat) (d := d + 4) (w := w) (M := rset M 7 f) hx (by rw [rset_ne (by decide)]; exact hL) hK (c := ((rfo K S y n ((K 0 1).toNat + 1) c)).1) (by omega)
    have c2 := s169 (nat := nat) (d := d + 4) (w := w) (M := rset M 7 f) hx (by rw [rset_ne (by decide)]; exact hL) hK (c := c) (by omega)
    have hm1 := mny_in (dig ((K 0 1).toNat + 1) ((rfo K S y n ((K 0 1).toNat + 1) c)).1) 3
    have hm2 := mny_in (dig ((K 0 1).toNat + 1) c) 3
    obtain ⟨f1, c3⟩ := s168 (nat := nat) (d := d) (w := w) (M := rset M 7 f) hx (by rw [rset_ne (by decide)]; exact hL) hK (by rw [rset_ne (by decide)]; exact hR) hS hH (c := c) (by omega) hy (n := n) (by omega) (code_ne (by omega) hc1 (by omega))
    rw [rset_rset] at c3
    have ih' := fun f z8 z9 => ih (c + 1) f z8 z9 (by omega) (by omega)
    rw [rfo, show ((c + 1 : Nat) : Int) = (c : Int) + 1 from rfl] at ih'
    rw [e170_48]
    rcases hv : vhD K S y n (dig ((K 0 1).toNat + 1) c) with _ | h
    · rw [hv] at ih' c3
      rw [show vof none = 1000000 from rfl] at c3
      dsimp only at ih'
      by_cases q1 : mny (dig ((K 0 1).toNat + 1) c) 3 - mny (dig ((K 0 1).toNat + 1) ((rfo K S y n ((K 0 1).toNat + 1) c)).1) 3 < 0
      · obtain ⟨f', g⟩ := ih' f (some (.int (J (mny (dig ((K 0 1).toNat + 1) c) 3 - mny (dig ((K 0 1).toNat + 1) ((rfo K S y n ((K 0 1).toNat + 1) c)).1) 3)))) (some (.int (J 1000000)))
        refine ⟨f', ?_⟩
        rw [← g]
        simp (disch := first | omega | exact Nat.le_of_ble_eq_true rfl) only [e170_0, e170_1, e170_2, e170_5, e170_8, e170_9, e170_10, e170_12, e170_15, e170_18, e170_19, e170_20, e170_21, e170_24, e170_27, e170_28, e170_29, e170_30, e170_33, e170_34, e170_35, e170_36, e170_37, e170_39, e170_40, e170_42, e170_43, e170_45, e170_46, e170_50, e170_52, e170_54, e170_55, e170_57, e170_58, e170_61, e170_62, e170_64, e170_67, e170_68, e170_70, e170_73, e170_74, e170_76, e170_78, e170_81, e170_83, e170_86, e170_87, e170_88, e170_89, e170_91, e170_94, e170_96, e170_98, e170_100, e170_103, e170_105, e170_108, e170_110, e170_112, e170_115, e170_117, e170_119, e170_121, e170_123, e170_126, e170_129, e170_130, e170_133, e170_134, e170_135, e170_138, e170_140, e170_143, e170_144, e170_146, e170_147, e170_150, e170_152, e170_153, e170_156, e170_157, e170_159, e170_162, e170_165, e170_166, e170_167, e170_170, e170_172, e170_175, e170_177, e170_180, e170_182, e170_185, e170_187, J_add, J_sub, J_mul, J_neg, J_lt, J_le, J_eq, gArr_J, gAst_J, gSiz_J, gFld_o, gUpd_o0, gUpd_o1, gUpd_o2, gUpd_o3, gUpd_o4, gUpd_o5, gUpd_o6, gUpd_o7, gUpd_o8, gUpd_o9, gUpd_o10, gUpd_o11, gUpd_o12, gUpd_o13, gUpd_o14, gUpd_o15, gUpd_o16, gUpd_o17, gUpd_o18, gIsO_o, Option.bind_some, List.getElem?_cons_zero, List.getElem?_cons_succ, List.length_cons, List.length_nil, List.set_cons_zero, List.set_cons_succ, gCat_nil, gCat_int, gCat_ref, if_pos, if_neg, Option.toList_some, Option.toList_none, List.cons_append, List.nil_append, B_nar, J1_nar, J0_nar, if_true, if_false, rd_wr_same, rd_wr_ne, true_and, and_true, B_0, B_1, not_true_eq_false, not_false_eq_true, rdM0, rdM1, rdM2, rdM3, rdM4, rdM5, rdM6, rdM7, rdM8, rdM9, rdM10, rdM11, rdM12, rset_at, rset_ne, rset_rset, w0M, wZ1, wZ2, wZ3, wZ4, wZ5, wZ6, wZ7, wZ8, wZ9, wZ10, wZ11, wZ12, f7_0, f7_1, f7_2, f7_3, f7_4, f7_5, f7_6, eP, c1, c2]
      · obtain ⟨f', g⟩ := ih' f1 (some (.int (J (mny (dig ((K 0 1).toNat + 1) c) 3 - mny (dig ((K 0 1).toNat + 1) ((rfo K S y n ((K 0 1).toNat + 1) c)).1) 3)))) (some (.int (J 1000000)))
        refine ⟨f', ?_⟩
        rw [← g]
        simp (disch := first | omega | exact Nat.le_of_ble_eq_true rfl) only [e170_0, e170_1, e170_2, e170_5, e170_8, e170_9, e170_10, e170_12, e170_15, e170_18, e170_19, e170_20, e170_21, e170_24, e170_27, e170_28, e170_29, e170_30, e170_33, e170_34, e170_35, e170_36, e170_37, e170_39, e170_40, e170_42, e170_43, e170_45, e170_46, e170_50, e170_52, e170_54, e170_55, e170_57, e170_58, e170_61, e170_62, e170_64, e170_67, e170_68, e170_70, e170_73, e170_74, e170_76, e170_78, e170_81, e170_83, e170_86, e170_87, e170_88, e170_89, e170_91, e170_94, e170_96, e170_98, e170_100, e170_103, e170_105, e170_108, e170_110, e170_112, e170_115, e170_117, e170_119, e170_121, e170_123, e170_126, e170_129, e170_130, e170_133, e170_134, e170_135, e170_138, e170_140, e170_143, e170_144, e170_146, e170_147, e170_150, e170_152, e170_153, e170_156, e170_157, e170_159, e170_162, e170_165, e170_166, e170_167, e170_170, e170_172, e170_175, e170_177, e170_180, e170_182, e170_185, e170_187, J_add, J_sub, J_mul, J_neg, J_lt, J_le, J_eq, gArr_J, gAst_J, gSiz_J, gFld_o, gUpd_o0, gUpd_o1, gUpd_o2, gUpd_o3, gUpd_o4, gUpd_o5, gUpd_o6, gUpd_o7, gUpd_o8, gUpd_o9, gUpd_o10, gUpd_o11, gUpd_o12, gUpd_o13, gUpd_o14, gUpd_o15, gUpd_o16, gUpd_o17, gUpd_o18, gIsO_o, Option.bind_some, List.getElem?_cons_zero, List.getElem?_cons_succ, List.length_cons, List.length_nil, List.set_cons_zero, List.set_cons_succ, gCat_nil, gCat_int, gCat_ref, if_pos, if_neg, Option.toList_some, Option.toList_none, List.cons_append, List.nil_append, B_nar, J1_nar, J0_nar, if_true, if_false, rd_wr_same, rd_wr_ne, true_and, and_true, B_0, B_1, not_true_eq_false, not_false_eq_true, rdM0, rdM1, rdM2, rdM3, rdM4, rdM5, rdM6, rdM7, rdM8, rdM9, rdM10, rdM11, rdM12, rset_at, rset_ne, rset_rset, w0M, wZ1, wZ2, wZ3, wZ4, wZ5, wZ6, wZ7, wZ8, wZ9, wZ10, wZ11, wZ12, f7_0, f7_1, f7_2, f7_3, f7_4, f7_5, f7_6, eP, c1, c2, c3]
    · have hvi := vh_in hK hS hy (by omega : 0 ≤ n) (fun k => digK hK) hv
      rw [hv] at ih' c3
      rw [show vof (some h) = h from rfl] at c3
      dsimp only at ih'
      by_cases q1 : mny (dig ((K 0 1).toNat + 1) c) 3 - mny (dig ((K 0 1).toNat + 1) ((rfo K S y n ((K 0 1).toNat + 1) c)).1) 3 < 0
      · rw [if_neg (by omega)] at ih'
        obtain ⟨f', g⟩ := ih' f (some (.int (J (mny (dig ((K 0 1).toNat + 1) c) 3 - mny (dig ((K 0 1).toNat + 1) ((rfo K S y n ((K 0 1).toNat + 1) c)).1) 3)))) (some (.int (J 1000000)))
        refine ⟨f', ?_⟩
        rw [← g]
        simp (disch := first | omega | exact Nat.le_of_ble_eq_true rfl) only [e170_0, e170_1, e170_2, e170_5, e170_8, e170_9, e170_10, e170_12, e170_15, e170_18, e170_19, e170_20, e170_21, e170_24, e170_27, e170_28, e170_29, e170_30, e170_33, e170_34, e170_35, e170_36, e170_37, e170_39, e170_40, e170_42, e170_43, e170_45, e170_46, e170_50, e170_52, e170_54, e170_55, e170_57, e170_58, e170_61, e170_62, e170_64, e170_67, e170_68, e170_70, e170_73, e170_74, e170_76, e170_78, e170_81, e170_83, e170_86, e170_87, e170_88, e170_89, e170_91, e170_94, e170_96, e170_98, e170_100, e170_103, e170_105, e170_108, e170_110, e170_112, e170_115, e170_117, e170_119, e170_121, e170_123, e170_126, e170_129, e170_130, e170_133, e170_134, e170_135, e170_138, e170_140, e170_143, e170_144, e170_146, e170_147, e170_150, e170_152, e170_153, e170_156, e170_157, e170_159, e170_162, e170_165, e170_166, e170_167, e170_170, e170_172, e170_175, e170_177, e170_180, e170_182, e170_185, e170_187, J_add, J_sub, J_mul, J_neg, J_lt, J_le, J_eq, gArr_J, gAst_J, gSiz_J, gFld_o, gUpd_o0, gUpd_o1, gUpd_o2, gUpd_o3, gUpd_o4, gUpd_o5, gUpd_o6, gUpd_o7, gUpd_o8, gUpd_o9, gUpd_o10, gUpd_o11, gUpd_o12, gUpd_o13, gUpd_o14, gUpd_o15, gUpd_o16, gUpd_o17, gUpd_o18, gIsO_o, Option.bind_some, List.getElem?_cons_zero, List.getElem?_cons_succ, List.length_cons, List.length_nil, List.set_cons_zero, List.set_cons_succ, gCat_nil, gCat_int, gCat_ref, if_pos, if_neg, Option.toList_some, Option.toList_none, List.cons_append, List.nil_append, B_nar, J1_nar, J0_nar, if_true, if_false, rd_wr_same, rd_wr_ne, true_and, and_true, B_0, B_1, not_true_eq_false, not_false_eq_true, rdM0, rdM1, rdM2, rdM3, rdM4, rdM5, rdM6, rdM7, rdM8, rdM9, rdM10, rdM11, rdM12, rset_at, rset_ne, rset_rset, w0M, wZ1, wZ2, wZ3, wZ4, wZ5, wZ6, wZ7, wZ8, wZ9, wZ10, wZ11, wZ12, f7_0, f7_1, f7_2, f7_3, f7_4, f7_5, f7_6, eP, c1, c2]
      · by_cases q2 : mny (dig ((K 0 1).toNat + 1) ((rfo K S y n ((K 0 1).toNat + 1) c)).1) 3 < mny (dig ((K 0 1).toNat + 1) c) 3 ∨ (mny (dig ((K 0 1).toNat + 1) ((rfo K S y n ((K 0 1).toNat + 1) c)).1) 3 = mny (dig ((K 0 1).toNat + 1) c) 3 ∧ h < ((rfo K S y n ((K 0 1).toNat + 1) c)).2)
        · rw [if_pos q2] at ih'
          dsimp only at ih'
          obtain ⟨f', g⟩ := ih' f1 (some (.int (J (mny (dig ((K 0 1).toNat + 1) c) 3 - mny (dig ((K 0 1).toNat + 1) ((rfo K S y n ((K 0 1).toNat + 1) c)).1) 3)))) (some (.int (J h)))
          refine ⟨f', ?_⟩
          rw [← g]
          by_cases q3 : 0 < mny (dig ((K 0 1).toNat + 1) c) 3 - mny (dig ((K 0 1).toNat + 1) ((rfo K S y n ((K 0 1).toNat + 1) c)).1) 3
          ·
            simp (disch := first | omega | exact Nat.le_of_ble_eq_true rfl) only [e170_0, e170_1, e170_2, e170_5, e170_8, e170_9, e170_10, e170_12, e170_15, e170_18, e170_19, e170_20, e170_21, e170_24, e170_27, e170_28, e170_29, e170_30, e170_33, e170_34, e170_35, e170_36, e170_37, e170_39, e170_40, e170_42, e170_43, e170_45, e170_46, e170_50, e170_52, e170_54, e170_55, e170_57, e170_58, e170_61, e170_62, e170_64, e170_67, e170_68, e170_70, e170_73, e170_74, e170_76, e170_78, e170_81, e170_83, e170_86, e170_87, e170_88, e170_89, e170_91, e170_94, e170_96, e170_98, e170_100, e170_103, e170_105, e170_108, e170_110, e170_112, e170_115, e170_117, e170_119, e170_121, e170_123, e170_126, e170_129, e170_130, e170_133, e170_134, e170_135, e170_138, e170_140, e170_143, e170_144, e170_146, e170_147, e170_150, e170_152, e170_153, e170_156, e170_157, e170_159, e170_162, e170_165, e170_166, e170_167, e170_170, e170_172, e170_175, e170_177, e170_180, e170_182, e170_185, e170_187, J_add, J_sub, J_mul, J_neg, J_lt, J_le, J_eq, gArr_J, gAst_J, gSiz_J, gFld_o, gUpd_o0, gUpd_o1, gUpd_o2, gUpd_o3, gUpd_o4, gUpd_o5, gUpd_o6, gUpd_o7, gUpd_o8, gUpd_o9, gUpd_o10, gUpd_o11, gUpd_o12, gUpd_o13, gUpd_o14, gUpd_o15, gUpd_o16, gUpd_o17, gUpd_o18, gIsO_o, Option.bind_some, List.getElem?_cons_zero, List.getElem?_cons_succ, List.length_cons, List.length_nil, List.set_cons_zero, List.set_cons_succ, gCat_nil, gCat_int, gCat_ref, if_pos, if_neg, Option.toList_some, Option.toList_none, List.cons_append, List.nil_append, B_nar, J1_nar, J0_nar, if_true, if_false, rd_wr_same, rd_wr_ne, true_and, and_true, B_0, B_1, not_true_eq_false, not_false_eq_true, rdM0, rdM1, rdM2, rdM3, rdM4, rdM5, rdM6, rdM7, rdM8, rdM9, rdM10, rdM11, rdM12, rset_at, rset_ne, rset_rset, w0M, wZ1, wZ2, wZ3, wZ4, wZ5, wZ6, wZ7, wZ8, wZ9, wZ10, wZ11, wZ12, f7_0, f7_1, f7_2, f7_3, f7_4, f7_5, f7_6, eP, c1, c2, c3]
          ·
            simp (disch := first | omega | exact Nat.le_of_ble_eq_true rfl) only [e170_0, e170_1, e170_2, e170_5, e170_8, e170_9, e170_10, e170_12, e170_15, e170_18, e170_19, e170_20, e170_21, e170_24, e170_27, e170_28, e170_29, e170_30, e170_33, e170_34, e170_35, e170_36, e170_37, e170_39, e170_40, e170_42, e170_43, e170_45, e170_46, e170_50, e170_52, e170_54, e170_55, e170_57, e170_58, e170_61, e170_62, e170_64, e170_67, e170_68, e170_70, e170_73, e170_74, e170_76, e170_78, e170_81, e170_83, e170_86, e170_87, e170_88, e170_89, e170_91, e170_94, e170_96, e170_98, e170_100, e170_103, e170_105, e170_108, e170_110, e170_112, e170_115, e170_117, e170_119, e170_121, e170_123, e170_126, e170_129, e170_130, e170_133, e170_134, e170_135, e170_138, e170_140, e170_143, e170_144, e170_146, e170_147, e170_150, e170_152, e170_153, e170_156, e170_157, e170_159, e170_162, e170_165, e170_166, e170_167, e170_170, e170_172, e170_175, e170_177, e170_180, e170_182, e170_185, e170_187, J_add, J_sub, J_mul, J_neg, J_lt, J_le, J_eq, gArr_J, gAst_J, gSiz_J, gFld_o, gUpd_o0, gUpd_o1, gUpd_o2, gUpd_o3, gUpd_o4, gUpd_o5, gUpd_o6, gUpd_o7, gUpd_o8, gUpd_o9, gUpd_o10, gUpd_o11, gUpd_o12, gUpd_o13, gUpd_o14, gUpd_o15, gUpd_o16, gUpd_o17, gUpd_o18, gIsO_o, Option.bind_some, List.getElem?_cons_zero, List.getElem?_cons_succ, List.length_cons, List.length_nil, List.set_cons_zero, List.set_cons_succ, gCat_nil, gCat_int, gCat_ref, if_pos, if_neg, Option.toList_some, Option.toList_none, List.cons_append, List.nil_append, B_nar, J1_nar, J0_nar, if_true, if_false, rd_wr_same, rd_wr_ne, true_and, and_true, B_0, B_1, not_true_eq_false, not_false_eq_true, rdM0, rdM1, rdM2, rdM3, rdM4, rdM5, rdM6, rdM7, rdM8, rdM9, rdM10, rdM11, rdM12, rset_at, rset_ne, rset_rset, w0M, wZ1, wZ2, wZ3, wZ4, wZ5, wZ6, wZ7, wZ8, wZ9, wZ10, wZ11, wZ12, f7_0, f7_1, f7_2, f7_3, f7_4, f7_5, f7_6, eP, c1, c2, c3]
        · rw [if_neg q2] at ih'
          obtain ⟨f', g⟩ := ih' f1 (some (.int (J (mny (dig ((K 0 1).toNat + 1) c) 3 - mny (dig ((K 0 1).toNat + 1) ((rfo K S y n ((K 0 1).toNat + 1) c)).1) 3)))) (some (.int (J h)))
          refine ⟨f', ?_⟩
          rw [← g]
          simp (disch := first | omega | exact Nat.le_of_ble_eq_true rfl) only [e170_0, e170_1, e170_2, e170_5, e170_8, e170_9, e170_10, e170_12, e170_15, e170_18, e170_19, e170_20, e170_21, e170_24, e170_27, e170_28, e170_29, e170_30, e170_33, e170_34, e170_35, e170_36, e170_37, e170_39, e170_40, e170_42, e170_43, e170_45, e170_46, e170_50, e170_52, e170_54, e170_55, e170_57, e170_58, e170_61, e170_62, e170_64, e170_67, e170_68, e170_70, e170_73, e170_74, e170_76, e170_78, e170_81, e170_83, e170_86, e170_87, e170_88, e170_89, e170_91, e170_94, e170_96, e170_98, e170_100, e170_103, e170_105, e170_108, e170_110, e170_112, e170_115, e170_117, e170_119, e170_121, e170_123, e170_126, e170_129, e170_130, e170_133, e170_134, e170_135, e170_138, e170_140, e170_143, e170_144, e170_146, e170_147, e170_150, e170_152, e170_153, e170_156, e170_157, e170_159, e170_162, e170_165, e170_166, e170_167, e170_170, e170_172, e170_175, e170_177, e170_180, e170_182, e170_185, e170_187, J_add, J_sub, J_mul, J_neg, J_lt, J_le, J_eq, gArr_J, gAst_J, gSiz_J, gFld_o, gUpd_o0, gUpd_o1, gUpd_o2, gUpd_o3, gUpd_o4, gUpd_o5, gUpd_o6, gUpd_o7, gUpd_o8, gUpd_o9, gUpd_o10, gUpd_o11, gUpd_o12, gUpd_o13, gUpd_o14, gUpd_o15, gUpd_o16, gUpd_o17, gUpd_o18, gIsO_o, Option.bind_some, List.getElem?_cons_zero, List.getElem?_cons_succ, List.length_cons, List.length_nil, List.set_cons_zero, List.set_cons_succ, gCat_nil, gCat_int, gCat_ref, if_pos, if_neg, Option.toList_some, Option.toList_none, List.cons_append, List.nil_append, B_nar, J1_nar, J0_nar, if_true, if_false, rd_wr_same, rd_wr_ne, true_and, and_true, B_0, B_1, not_true_eq_false, not_false_eq_true, rdM0, rdM1, rdM2, rdM3, rdM4, rdM5, rdM6, rdM7, rdM8, rdM9, rdM10, rdM11, rdM12, rset_at, rset_ne, rset_rset, w0M, wZ1, wZ2, wZ3, wZ4, wZ5, wZ6, wZ7, wZ8, wZ9, wZ10, wZ11, wZ12, f7_0, f7_1, f7_2, f7_3, f7_4, f7_5, f7_6, eP, c1, c2, c3]


theorem z170 {nat : gNat} {d : Nat} {w : gWd} {x : Nat} {M K : Lay} (hx : x + 12 < gSTR) (hL : mLaw K (M 5)) (hK : vK K) {S : Lay} (hR : mRow K S (M 6)) (hS : vS K S) (hH : 0 ≤ S 0 0 ∧ S 0 0 < 1000000) {y n k : Int} (h_y : -2147483648 ≤ y ∧ y < 2147483648) (h_n : -2147483648 ≤ n ∧ n < 2147483648) (h_k : -2147483648 ≤ k ∧ k < 2147483648) (B0 : Int → Int) : ∃ f', gC nat (d + 7) 170 [.ref x, .int (J y), .int (J n), .int (J k)] (putM w x M) = some (some (.int (J (aOrd K S y n k B0))), putM w x (rset M 7 f')) := by
  obtain ⟨k0, k1, k2, k3, k4, kg, kd, kr⟩ := id hK
  obtain ⟨f0, f1, f2, f3, f4, fr, fg, fd⟩ := id hL
  have c1 := s139 (nat := nat) (d := d + 4) (w := w) hx hL hK h_y
  have c2 := s122 (nat := nat) (d := d + 5) (w := (putM w x M)) (v := n) (l := 1) (h := 24) (by omega) (by omega) (by omega)
  have c3 := s122 (nat := nat) (d := d + 5) (w := (putM w x M)) (v := k) (l := -1) (h := 3) (by omega) (by omega) (by omega)
  rw [en170]
  unfold aOrd
  by_cases q1 : 0 ≤ y ∧ y ≤ K 0 2 - 1
  case neg =>
    rw [B_neg q1] at c1
    rw [if_neg (fun z => q1 z.1)]
    refine ⟨M 7, ?_⟩
    rw [rset_self]
    simp (disch := first | omega | exact Nat.le_of_ble_eq_true rfl) only [e170_0, e170_1, e170_2, e170_5, e170_8, e170_9, e170_10, e170_12, e170_15, e170_18, e170_19, e170_20, e170_21, e170_24, e170_27, e170_28, e170_29, e170_30, e170_33, e170_34, e170_35, e170_36, e170_37, e170_39, e170_40, e170_42, e170_43, e170_45, e170_46, e170_50, e170_52, e170_54, e170_55, e170_57, e170_58, e170_61, e170_62, e170_64, e170_67, e170_68, e170_70, e170_73, e170_74, e170_76, e170_78, e170_81, e170_83, e170_86, e170_87, e170_88, e170_89, e170_91, e170_94, e170_96, e170_98, e170_100, e170_103, e170_105, e170_108, e170_110, e170_112, e170_115, e170_117, e170_119, e170_121, e170_123, e170_126, e170_129, e170_130, e170_133, e170_134, e170_135, e170_138, e170_140, e170_143, e170_144, e170_146, e170_147, e170_150, e170_152, e170_153, e170_156, e170_157, e170_159, e170_162, e170_165, e170_166, e170_167, e170_170, e170_172, e170_175, e170_177, e170_180, e170_182, e170_185, e170_187, J_add, J_sub, J_mul, J_neg, J_lt, J_le, J_eq, gArr_J, gAst_J, gSiz_J, gFld_o, gUpd_o0, gUpd_o1, gUpd_o2, gUpd_o3, gUpd_o4, gUpd_o5, gUpd_o6, gUpd_o7, gUpd_o8, gUpd_o9, gUpd_o10, gUpd_o11, gUpd_o12, gUpd_o13, gUpd_o14, gUpd_o15, gUpd_o16, gUpd_o17, gUpd_o18, gIsO_o, Option.bind_some, List.getElem?_cons_zero, List.getElem?_cons_succ, List.length_cons, List.length_nil, List.set_cons_zero, List.set_cons_succ, gCat_nil, gCat_int, gCat_ref, if_pos, if_neg, Option.toList_some, Option.toList_none, List.cons_append, List.nil_append, B_nar, J1_nar, J0_nar, if_true, if_false, rd_wr_same, rd_wr_ne, true_and, and_true, B_0, B_1, not_true_eq_false, not_false_eq_true, rdM0, rdM1, rdM2, rdM3, rdM4, rdM5, rdM6, rdM7, rdM8, rdM9, rdM10, rdM11, rdM12, rset_at, rset_ne, rset_rset, w0M, wZ1, wZ2, wZ3, wZ4, wZ5, wZ6, wZ7, wZ8, wZ9, wZ10, wZ11, wZ12, f7_0, f7_1, f7_2, f7_3, f7_4, f7_5, f7_6, c1]
  rw [B_pos q1] at c1
  by_cases q2 : 1 ≤ n ∧ n ≤ 24
  case neg =>
    rw [B_neg q2] at c2
    rw [if_neg (fun z => q2 z.2.1)]
    refine ⟨M 7, ?_⟩
    rw [rset_self]
    simp (disch := first | omega | exact Nat.le_of_ble_eq_true rfl) only [e170_0, e170_1, e170_2, e170_5, e170_8, e170_9, e170_10, e170_12, e170_15, e170_18, e170_19, e170_20, e170_21, e170_24, e170_27, e170_28, e170_29, e170_30, e170_33, e170_34, e170_35, e170_36, e170_37, e170_39, e170_40, e170_42, e170_43, e170_45, e170_46, e170_50, e170_52, e170_54, e170_55, e170_57, e170_58, e170_61, e170_62, e170_64, e170_67, e170_68, e170_70, e170_73, e170_74, e170_76, e170_78, e170_81, e170_83, e170_86, e170_87, e170_88, e170_89, e170_91, e170_94, e170_96, e170_98, e170_100, e170_103, e170_105, e170_108, e170_110, e170_112, e170_115, e170_117, e170_119, e170_121, e170_123, e170_126, e170_129, e170_130, e170_133, e170_134, e170_135, e170_138, e170_140, e170_143, e170_144, e170_146, e170_147, e170_150, e170_152, e170_153, e170_156, e170_157, e170_159, e170_162, e170_165, e170_166, e170_167, e170_170, e170_172, e170_175, e170_177, e170_180, e170_182, e170_185, e170_187, J_add, J_sub, J_mul, J_neg, J_lt, J_le, J_eq, gArr_J, gAst_J, gSiz_J, gFld_o, gUpd_o0, gUpd_o1, gUpd_o2, gUpd_o3, gUpd_o4, gUpd_o5, gUpd_o6, gUpd_o7, gUpd_o8, gUpd_o9, gUpd_o10, gUpd_o11, gUpd_o12, gUpd_o13, gUpd_o14, gUpd_o15, gUpd_o16, gUpd_o17, gUpd_o18, gIsO_o, Option.bind_some, List.getElem?_cons_zero, List.getElem?_cons_succ, List.length_cons, List.length_nil, List.set_cons_zero, List.set_cons_succ, gCat_nil, gCat_int, gCat_ref, if_pos, if_neg, Option.toList_some, Option.toList_none, List.cons_append, List.nil_append, B_nar, J1_nar, J0_nar, if_true, if_false, rd_wr_same, rd_wr_ne, true_and, and_true, B_0, B_1, not_true_eq_false, not_false_eq_true, rdM0, rdM1, rdM2, rdM3, rdM4, rdM5, rdM6, rdM7, rdM8, rdM9, rdM10, rdM11, rdM12, rset_at, rset_ne, rset_rset, w0M, wZ1, wZ2, wZ3, wZ4, wZ5, wZ6, wZ7, wZ8, wZ9, wZ10, wZ11, wZ12, f7_0, f7_1, f7_2, f7_3, f7_4, f7_5, f7_6, c1, c2]
  rw [B_pos q2] at c2
  by_cases q3 : -1 ≤ k ∧ k ≤ 3
  case neg =>
    rw [B_neg q3] at c3
    rw [if_neg (fun z => q3 z.2.2)]
    refine ⟨M 7, ?_⟩
    rw [rset_self]
    simp (disch := first | omega | exact Nat.le_of_ble_eq_true rfl) only [e170_0, e170_1, e170_2, e170_5, e170_8, e170_9, e170_10, e170_12, e170_15, e170_18, e170_19, e170_20, e170_21, e170_24, e170_27, e170_28, e170_29, e170_30, e170_33, e170_34, e170_35, e170_36, e170_37, e170_39, e170_40, e170_42, e170_43, e170_45, e170_46, e170_50, e170_52, e170_54, e170_55, e170_57, e170_58, e170_61, e170_62, e170_64, e170_67, e170_68, e170_70, e170_73, e170_74, e170_76, e170_78, e170_81, e170_83, e170_86, e170_87, e170_88, e170_89, e170_91, e170_94, e170_96, e170_98, e170_100, e170_103, e170_105, e170_108, e170_110, e170_112, e170_115, e170_117, e170_119, e170_121, e170_123, e170_126, e170_129, e170_130, e170_133, e170_134, e170_135, e170_138, e170_140, e170_143, e170_144, e170_146, e170_147, e170_150, e170_152, e170_153, e170_156, e170_157, e170_159, e170_162, e170_165, e170_166, e170_167, e170_170, e170_172, e170_175, e170_177, e170_180, e170_182, e170_185, e170_187, J_add, J_sub, J_mul, J_neg, J_lt, J_le, J_eq, gArr_J, gAst_J, gSiz_J, gFld_o, gUpd_o0, gUpd_o1, gUpd_o2, gUpd_o3, gUpd_o4, gUpd_o5, gUpd_o6, gUpd_o7, gUpd_o8, gUpd_o9, gUpd_o10, gUpd_o11, gUpd_o12, gUpd_o13, gUpd_o14, gUpd_o15, gUpd_o16, gUpd_o17, gUpd_o18, gIsO_o, Option.bind_some, List.getElem?_cons_zero, List.getElem?_cons_succ, List.length_cons, List.length_nil, List.set_cons_zero, List.set_cons_succ, gCat_nil, gCat_int, gCat_ref, if_pos, if_neg, Option.toList_some, Option.toList_none, List.cons_append, List.nil_append, B_nar, J1_nar, J0_nar, if_true, if_false, rd_wr_same, rd_wr_ne, true_and, and_true, B_0, B_1, not_true_eq_false, not_false_eq_true, rdM0, rdM1, rdM2, rdM3, rdM4, rdM5, rdM6, rdM7, rdM8, rdM9, rdM10, rdM11, rdM12, rset_at, rset_ne, rset_rset, w0M, wZ1, wZ2, wZ3, wZ4, wZ5, wZ6, wZ7, wZ8, wZ9, wZ10, wZ11, wZ12, f7_0, f7_1, f7_2, f7_3, f7_4, f7_5, f7_6, c1, c2, c3]
  rw [B_pos q3] at c3
  rw [if_pos ⟨q1, q2, q3⟩]
  have h1P : 1 ≤ ((K 0 1).toNat + 1) * (((K 0 1).toNat + 1) * ((K 0 1).toNat + 1)) := Nat.mul_pos (by omega) (Nat.mul_pos (by omega) (by omega))
  have hrel := rfo_rel (K := K) (S := S) (y := y) (n := n) (B := ((K 0 1).toNat + 1)) (by omega) (B0 := B0) (((K 0 1).toNat + 1) * (((K 0 1).toNat + 1) * ((K 0 1).toNat + 1)))
  rw [codes_dfs (R := fun _ => 0) rfl] at hrel
  obtain ⟨r1, r2, r3, r4⟩ := hrel
  obtain ⟨f', h⟩ := l170 (nat := nat) (d := d) (w := w) hx hL hK hR hS hH (y := y) (n := n) (k := k) (by omega) q2 q3 rfl (((K 0 1).toNat + 1) * (((K 0 1).toNat + 1) * ((K 0 1).toNat + 1)) - 1) 1 (M 7) none none (by omega) (Nat.le_refl 1)
  have e1 : rfo K S y n ((K 0 1).toNat + 1) 1 = (0, 0) := by
    have hv : vhD K S y n (dig ((K 0 1).toNat + 1) 0) = none := by
      unfold vhD
      rw [if_neg]
      have : dig ((K 0 1).toNat + 1) 0 0 = -1 := by
        show (((0 / ((K 0 1).toNat + 1) / ((K 0 1).toNat + 1) % ((K 0 1).toNat + 1) : Nat)) : Int) - 1 = -1
        rw [Nat.zero_div, Nat.zero_div, Nat.zero_mod]
        rfl
      omega
    show (match vhD K S y n (dig ((K 0 1).toNat + 1) 0) with | none => rfo K S y n ((K 0 1).toNat + 1) 0 | some h => _) = _
    rw [hv]
    rfl
  rw [e1, rset_self, show ((1 : Nat) : Int) = 1 from rfl] at h
  dsimp only at h
  rw [show ((0 : Nat) : Int) = 0 from rfl] at h
  refine ⟨f', ?_⟩
  have eF : (if k = -1 then (ordR K S y n B0).1 else if k = 3 then (ordR K S y n B0).2.1 else if k < (ordR K S y n B0).1 then (ordR K S y n B0).2.2 k else -4) = (if k = -1 then mny (dig ((K 0 1).toNat + 1) (rfo K S y n ((K 0 1).toNat + 1) (((K 0 1).toNat + 1) * (((K 0 1).toNat + 1) * ((K 0 1).toNat + 1)))).1) 3 else if k = 3 then (rfo K S y n ((K 0 1).toNat + 1) (((K 0 1).toNat + 1) * (((K 0 1).toNat + 1) * ((K 0 1).toNat + 1)))).2 else if dig ((K 0 1).toNat + 1) (rfo K S y n ((K 0 1).toNat + 1) (((K 0 1).toNat + 1) * (((K 0 1).toNat + 1) * ((K 0 1).toNat + 1)))).1 k.toNat < 0 then -4 else dig ((K 0 1).toNat + 1) (rfo K S y n ((K 0 1).toNat + 1) (((K 0 1).toNat + 1) * (((K 0 1).toNat + 1) * ((K 0 1).toNat + 1)))).1 k.toNat) := by
    show (if k = -1 then (dfs K y n 3 0 0 (aoff S) (fun _ => 0) (0, 0, B0)).1 else if k = 3 then (dfs K y n 3 0 0 (aoff S) (fun _ => 0) (0, 0, B0)).2.1 else if k < (dfs K y n 3 0 0 (aoff S) (fun _ => 0) (0, 0, B0)).1 then (dfs K y n 3 0 0 (aoff S) (fun _ => 0) (0, 0, B0)).2.2 k else -4) = _
    rw [← r1, ← r2]
    by_cases z1 : k = -1
    · rw [if_pos z1, if_pos z1]
    · rw [if_neg z1, if_neg z1]
      by_cases z2 : k = 3
      · rw [if_pos z2, if_pos z2]
      · rw [if_neg z2, if_neg z2]
        have h3 := r3 k.toNat (by omega)
        have h4 := r4 k.toNat (by omega)
        rw [show ((k.toNat : Nat) : Int) = k from by omega] at h3 h4
        by_cases z3 : k < (dfs K y n 3 0 0 (aoff S) (fun _ => 0) (0, 0, B0)).1
        · rw [if_pos z3, h3 z3, if_neg (by have := h4.mpr z3; omega)]
        · rw [if_neg z3, if_pos (by
            rcases Int.lt_or_le (dig ((K 0 1).toNat + 1) (rfo K S y n ((K 0 1).toNat + 1) (((K 0 1).toNat + 1) * (((K 0 1).toNat + 1) * ((K 0 1).toNat + 1)))).1 k.toNat) 0 with e | e
            · exact e
            · exact absurd (h4.mp e) z3)]
  rw [eF, ← h]
  simp (disch := first | omega | exact Nat.le_of_ble_eq_true rfl) only [e170_0, e170_1, e170_2, e170_5, e170_8, e170_9, e170_10, e170_12, e170_15, e170_18, e170_19, e170_20, e170_21, e170_24, e170_27, e170_28, e170_29, e170_30, e170_33, e170_34, e170_35, e170_36, e170_37, e170_39, e170_40, e170_42, e170_43, e170_45, e170_46, e170_50, e170_52, e170_54, e170_55, e170_57, e170_58, e170_61, e170_62, e170_64, e170_67, e170_68, e170_70, e170_73, e170_74, e170_76, e170_78, e170_81, e170_83, e170_86, e170_87, e170_88, e170_89, e170_91, e170_94, e170_96, e170_98, e170_100, e170_103, e170_105, e170_108, e170_110, e170_112, e170_115, e170_117, e170_119, e170_121, e170_123, e170_126, e170_129, e170_130, e170_133, e170_134, e170_135, e170_138, e170_140, e170_143, e170_144, e170_146, e170_147, e170_150, e170_152, e170_153, e170_156, e170_157, e170_159, e170_162, e170_165, e170_166, e170_167, e170_170, e170_172, e170_175, e170_177, e170_180, e170_182, e170_185, e170_187, J_add, J_sub, J_mul, J_neg, J_lt, J_le, J_eq, gArr_J, gAst_J, gSiz_J, gFld_o, gUpd_o0, gUpd_o1, gUpd_o2, gUpd_o3, gUpd_o4, gUpd_o5, gUpd_o6, gUpd_o7, gUpd_o8, gUpd_o9, gUpd_o10, gUpd_o11, gUpd_o12, gUpd_o13, gUpd_o14, gUpd_o15, gUpd_o16, gUpd_o17, gUpd_o18, gIsO_o, Option.bind_some, List.getElem?_cons_zero, List.getElem?_cons_succ, List.length_cons, List.length_nil, List.set_cons_zero, List.set_cons_succ, gCat_nil, gCat_int, gCat_ref, if_pos, if_neg, Option.toList_some, Option.toList_none, List.cons_append, List.nil_append, B_nar, J1_nar, J0_nar, if_true, if_false, rd_wr_same, rd_wr_ne, true_and, and_true, B_0, B_1, not_true_eq_false, not_false_eq_true, rdM0, rdM1, rdM2, rdM3, rdM4, rdM5, rdM6, rdM7, rdM8, rdM9, rdM10, rdM11, rdM12, rset_at, rset_ne, rset_rset, w0M, wZ1, wZ2, wZ3, wZ4, wZ5, wZ6, wZ7, wZ8, wZ9, wZ10, wZ11, wZ12, f7_0, f7_1, f7_2, f7_3, f7_4, f7_5, f7_6, f1, c1, c2, c3]
