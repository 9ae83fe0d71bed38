/-- the crews that close a gap within so many hours, of the first so many -/
def clos (K S : Lay) (n : Nat) (g : Int) : Nat → Nat
  | 0 => 0
  | c + 1 => if K 1 (5 * g + 4) ≤ S 1 g ∨ (cfr K (crewS S c g) g 0 n).1 ≠ -4 then clos K S n g c ||| 2 ^ c else clos K S n g c
theorem clos_lt (K S : Lay) (n : Nat) (g : Int) : ∀ c : Nat, c ≤ 16 → clos K S n g c < 65536 := by
  intro c
  induction c with
  | zero => intro _; exact (by decide : (0 : Nat) < 65536)
  | succ c ih =>
    intro hc
    have h2 : 2 ^ c < 2 ^ 16 := Nat.pow_lt_pow_right (by decide) (by omega)
    rw [clos]
    split
    · exact Nat.or_lt_two_pow (n := 16) (ih (by omega)) h2
    · exact ih (by omega)
theorem crewS_1 {S : Lay} {c : Nat} {g : Int} {b : Int} (h : b ≠ 2) : (crewS S c g) b = S b := by
  funext x
  simp [crewS, h]
theorem nS_crew {S : Lay} (h : nS S) {c : Nat} {g : Int} : nS (crewS S c g) := by
  obtain ⟨h1, h2, h3⟩ := h
  refine ⟨fun x hx => by rw [crewS_1 (by decide)]; exact h1 x hx, fun x hx => ?_, fun x hx => by rw [crewS_1 (by decide)]; exact h3 x hx⟩
  unfold crewS
  rw [if_neg (by omega)]
  exact h2 x hx
theorem vS_crew {K S : Lay} (hK : vK K) (hS : vS K S) {c : Nat} (hc : c < 2 ^ (K 0 2).toNat) {g : Int} (hg : 0 ≤ g ∧ g < K 0 1) (ho : S 1 g < K 1 (5 * g + 4)) : vS K (crewS S c g) := by
  obtain ⟨s0, s1, s2, s3⟩ := hS
  refine ⟨by rw [crewS_1 (by decide)]; exact s0, by rw [crewS_1 (by decide)]; exact s1, fun y h1 h2 => ?_, by rw [crewS_1 (by decide)]; exact s3⟩
  rw [crewS_1 (b := 1) (by decide)]
  unfold crewS
  rw [if_pos (show (2 : Int) = 2 ∧ 0 ≤ y ∧ y < 4 from ⟨rfl, h1, h2⟩)]
  by_cases q : c.testBit y.toNat = true
  · rw [if_pos q]
    refine Or.inr ⟨?_, hg.1, hg.2, ho⟩
    by_cases q2 : y < K 0 2
    · exact q2
    · have := Nat.testBit_lt_two_pow (Nat.lt_of_lt_of_le hc (Nat.pow_le_pow_right (by decide : 2 > 0) (show (K 0 2).toNat ≤ y.toNat by omega)))
      rw [this] at q
      exact absurd q (by decide)
  · rw [if_neg q]
    exact Or.inl rfl
def clo8 (K S : Lay) (n : Nat) (C0 : Int → Nat) (i : Nat) : Int → Nat := fun g => if 0 ≤ g ∧ g < i then clos K S n g (2 ^ (K 0 2).toNat) else C0 g

theorem l1 {nat : gNat} {d : Nat} {w : gWd} {x m a t : Nat} {K S : Lay} (hK : vK K) (hm : isMe w m K) (hx : x + 4 < gSTR) (hmx : m + 3 < x ∨ x + 4 < m) (ht : t + 3 < gSTR) (htm : t + 3 < m ∨ m + 3 < t) (ha : isSt w a S) (hat : a + 3 < t ∨ t + 3 < a) (hax : a + 3 < x ∨ x + 4 < a) (htx : t + 3 < x ∨ x + 4 < t) (hS : vS K S) (hn : nS S) {n : Nat} (hn1 : 1 ≤ n ∧ n ≤ 24) (hh : S 0 0 < 1000000000) {g : Int} (hg : 0 ≤ g ∧ g < K 0 1) : ∀ (j c : Nat) (W : gWd) (T : Lay), c + j = 2 ^ (K 0 2).toNat → nS T → isMe W m K → isSt W a S → isSt W t T → ∃ T', nS T' ∧ gX (gC nat (d + 6)) nat 1 23 [some (.ref x), some (.ref m), some (.ref a), some (.ref t), some (.int (J n)), some (.int (J g)), some (.int (J (clos K S n g c))), some (.int (J c))] [] [] W = gX (gC nat (d + 6)) nat 1 76 [some (.ref x), some (.ref m), some (.ref a), some (.ref t), some (.int (J n)), some (.int (J g)), some (.int (J (clos K S n g (2 ^ (K 0 2).toNat)))), some (.int (J (2 ^ (K 0 2).toNat : Nat)))] [] [] (putS W t T') := by
  have k1 := hK.2.1
  have k2 := hK.2.2.1
  have hsh := J_shl (g := K 0 2) (by omega)
  have h16 : 2 ^ (K 0 2).toNat ≤ 2 ^ 4 := Nat.pow_le_pow_right (by decide) (by omega)
  generalize hP : 2 ^ (K 0 2).toNat = P at *
  intro j
  induction j with
  | zero =>
    intro c W T hc hT hm ha ht
    rw [Nat.add_zero] at hc
    subst hc
    refine ⟨T, hT, ?_⟩
    rw [putS_self ht, e1_23]
    have r := hm.2.1
    simp (disch := first | omega | exact Nat.le_of_ble_eq_true rfl) only [e1_0, e1_1, e1_2, e1_5, e1_6, e1_8, e1_10, e1_11, e1_14, e1_17, e1_18, e1_20, e1_21, e1_25, e1_26, e1_27, e1_30, e1_31, e1_34, e1_35, e1_36, e1_39, e1_40, e1_42, e1_44, e1_47, e1_48, e1_49, e1_51, e1_53, e1_56, e1_58, e1_61, e1_63, e1_64, e1_66, e1_67, e1_68, e1_70, e1_73, e1_77, e1_80, e1_82, e1_83, e1_86, e1_87, e1_90, e1_92, e1_94, e1_97, e1_100, e1_103, e1_104, e1_105, e1_108, e1_110, e1_111, e1_112, e1_114, e1_115, e1_117, e1_120, e1_123, J_add, J_sub, J_mul, J_neg, J_lt, J_le, J_eq, gArr_J, gAst_J, gSiz_J, gFld_o, gUpd_o0, gUpd_o1, gUpd_o2, gUpd_o3, gUpd_o4, gUpd_o5, gUpd_o6, gUpd_o7, gUpd_o8, gUpd_o9, gUpd_o10, gUpd_o11, gUpd_o12, gUpd_o13, gUpd_o14, gUpd_o15, gUpd_o16, gUpd_o17, gUpd_o18, gIsO_o, Option.bind_some, List.getElem?_cons_zero, List.getElem?_cons_succ, List.length_cons, List.length_nil, List.set_cons_zero, List.set_cons_succ, gCat_nil, gCat_int, gCat_ref, if_pos, if_neg, Option.toList_some, Option.toList_none, List.cons_append, List.nil_append, B_nar, J1_nar, J0_nar, if_true, if_false, rd_wr_same, rd_wr_ne, true_and, and_true, B_0, B_1, not_true_eq_false, not_false_eq_true, r, hsh]
  | succ j ih =>
    intro c W T hc hT hm ha ht
    have r := hm.2.1
    have r2 := ht.2.1
    have hsc := J_shl (g := (c : Int)) (by omega)
    rw [Int.toNat_natCast] at hsc
    have c1 := s58w (nat := nat) (d := d + 4) ht ha hat hT hn
    have c2 := s2 (nat := nat) (d := d + 3) (w := W) (a := t) (S := S) ht.1 (c := c) (by omega) (g := g)
    have f1 : ∀ S, rd (putS W t S) t = _ := fun S => rdP0
    rw [e1_23]
    by_cases hop : K 1 (5 * g + 4) ≤ S 1 g
    · have hs1 := hS.2.1 g hg.1 hg.2
      have hk4 := (hK.2.2.2.2.2.1 g hg.1 hg.2).2.2.2.2.2
      have c3 := s70c (nat := nat) (d := d + 3) (w := W) (a := t) (S := crewS S c g) hm hK (by omega) ht.1 hg (by rw [crewS_1 (by decide)]; omega) (by rw [crewS_1 (by decide)]; exact hop) (n := n) (by omega)
      have hm2 : isMe (putS W t (crewS S c g)) m K := isMe_putS (by unfold off; omega) hm
      obtain ⟨T', n1, g1⟩ := ih (c + 1) (putS W t (crewS S c g)) (crewS S c g) (by omega) (nS_crew hn) hm2 (isSt_off (by unfold off; omega) ha) (isSt_putS ht.1)
      refine ⟨T', n1, ?_⟩
      rw [putS_putS] at g1
      rw [← g1, clos, if_pos (Or.inl hop), show ((c + 1 : Nat) : Int) = (c : Int) + 1 from rfl]
      simp (disch := first | omega | exact Nat.le_of_ble_eq_true rfl) only [e1_0, e1_1, e1_2, e1_5, e1_6, e1_8, e1_10, e1_11, e1_14, e1_17, e1_18, e1_20, e1_21, e1_25, e1_26, e1_27, e1_30, e1_31, e1_34, e1_35, e1_36, e1_39, e1_40, e1_42, e1_44, e1_47, e1_48, e1_49, e1_51, e1_53, e1_56, e1_58, e1_61, e1_63, e1_64, e1_66, e1_67, e1_68, e1_70, e1_73, e1_77, e1_80, e1_82, e1_83, e1_86, e1_87, e1_90, e1_92, e1_94, e1_97, e1_100, e1_103, e1_104, e1_105, e1_108, e1_110, e1_111, e1_112, e1_114, e1_115, e1_117, e1_120, e1_123, J_add, J_sub, J_mul, J_neg, J_lt, J_le, J_eq, gArr_J, gAst_J, gSiz_J, gFld_o, gUpd_o0, gUpd_o1, gUpd_o2, gUpd_o3, gUpd_o4, gUpd_o5, gUpd_o6, gUpd_o7, gUpd_o8, gUpd_o9, gUpd_o10, gUpd_o11, gUpd_o12, gUpd_o13, gUpd_o14, gUpd_o15, gUpd_o16, gUpd_o17, gUpd_o18, gIsO_o, Option.bind_some, List.getElem?_cons_zero, List.getElem?_cons_succ, List.length_cons, List.length_nil, List.set_cons_zero, List.set_cons_succ, gCat_nil, gCat_int, gCat_ref, if_pos, if_neg, Option.toList_some, Option.toList_none, List.cons_append, List.nil_append, B_nar, J1_nar, J0_nar, if_true, if_false, rd_wr_same, rd_wr_ne, true_and, and_true, B_0, B_1, not_true_eq_false, not_false_eq_true, r, r2, f1, hsh, hsc, J_or, c1, c2, c3]
    · have vC := vS_crew hK hS (c := c) (by rw [hP]; omega) hg (by omega)
      have c3 := s70 (nat := nat) (d := d + 1) (w := W) (a := t) (S := crewS S c g) hm hK (by omega) ht.1 vC hg (N := n) (by rw [crewS_1 (by decide)]; omega)
      obtain ⟨q1, q2⟩ := cfr_in K (crewS S c g) g n 0
      have e0 : clos K S n g (c + 1) = if (cfr K (crewS S c g) g 0 n).1 ≠ -4 then clos K S n g c ||| 2 ^ c else clos K S n g c := by
        rw [clos]
        by_cases q : (cfr K (crewS S c g) g 0 n).1 ≠ -4
        · rw [if_pos (Or.inr q), if_pos q]
        · rw [if_neg (fun z => z.elim hop q), if_neg q]
      generalize cfr K (crewS S c g) g 0 n = r3 at *
      have hm2 : isMe (putS W t (lives K (crewS S c g) r3.2)) m K := isMe_putS (by unfold off; omega) hm
      obtain ⟨T', n1, g1⟩ := ih (c + 1) (putS W t (lives K (crewS S c g) r3.2)) _ (by omega) (nS_lives hK vC (nS_crew hn) r3.2) hm2 (isSt_off (by unfold off; omega) ha) (isSt_putS ht.1)
      refine ⟨T', n1, ?_⟩
      rw [putS_putS] at g1
      rw [← g1, e0, show ((c + 1 : Nat) : Int) = (c : Int) + 1 from rfl]
      by_cases q : r3.1 = -4
      · rw [if_neg (fun z => z q)]
        rw [q] at c3
        simp (disch := first | omega | exact Nat.le_of_ble_eq_true rfl) only [e1_0, e1_1, e1_2, e1_5, e1_6, e1_8, e1_10, e1_11, e1_14, e1_17, e1_18, e1_20, e1_21, e1_25, e1_26, e1_27, e1_30, e1_31, e1_34, e1_35, e1_36, e1_39, e1_40, e1_42, e1_44, e1_47, e1_48, e1_49, e1_51, e1_53, e1_56, e1_58, e1_61, e1_63, e1_64, e1_66, e1_67, e1_68, e1_70, e1_73, e1_77, e1_80, e1_82, e1_83, e1_86, e1_87, e1_90, e1_92, e1_94, e1_97, e1_100, e1_103, e1_104, e1_105, e1_108, e1_110, e1_111, e1_112, e1_114, e1_115, e1_117, e1_120, e1_123, J_add, J_sub, J_mul, J_neg, J_lt, J_le, J_eq, gArr_J, gAst_J, gSiz_J, gFld_o, gUpd_o0, gUpd_o1, gUpd_o2, gUpd_o3, gUpd_o4, gUpd_o5, gUpd_o6, gUpd_o7, gUpd_o8, gUpd_o9, gUpd_o10, gUpd_o11, gUpd_o12, gUpd_o13, gUpd_o14, gUpd_o15, gUpd_o16, gUpd_o17, gUpd_o18, gIsO_o, Option.bind_some, List.getElem?_cons_zero, List.getElem?_cons_succ, List.length_cons, List.length_nil, List.set_cons_zero, List.set_cons_succ, gCat_nil, gCat_int, gCat_ref, if_pos, if_neg, Option.toList_some, Option.toList_none, List.cons_append, List.nil_append, B_nar, J1_nar, J0_nar, if_true, if_false, rd_wr_same, rd_wr_ne, true_and, and_true, B_0, B_1, not_true_eq_false, not_false_eq_true, r, r2, f1, hsh, hsc, J_or, c1, c2, c3]
      · rw [if_pos q]
        simp (disch := first | omega | exact Nat.le_of_ble_eq_true rfl) only [e1_0, e1_1, e1_2, e1_5, e1_6, e1_8, e1_10, e1_11, e1_14, e1_17, e1_18, e1_20, e1_21, e1_25, e1_26, e1_27, e1_30, e1_31, e1_34, e1_35, e1_36, e1_39, e1_40, e1_42, e1_44, e1_47, e1_48, e1_49, e1_51, e1_53, e1_56, e1_58, e1_61, e1_63, e1_64, e1_66, e1_67, e1_68, e1_70, e1_73, e1_77, e1_80, e1_82, e1_83, e1_86, e1_87, e1_90, e1_92, e1_94, e1_97, e1_100, e1_103, e1_104, e1_105, e1_108, e1_110, e1_111, e1_112, e1_114, e1_115, e1_117, e1_120, e1_123, J_add, J_sub, J_mul, J_neg, J_lt, J_le, J_eq, gArr_J, gAst_J, gSiz_J, gFld_o, gUpd_o0, gUpd_o1, gUpd_o2, gUpd_o3, gUpd_o4, gUpd_o5, gUpd_o6, gUpd_o7, gUpd_o8, gUpd_o9, gUpd_o10, gUpd_o11, gUpd_o12, gUpd_o13, gUpd_o14, gUpd_o15, gUpd_o16, gUpd_o17, gUpd_o18, gIsO_o, Option.bind_some, List.getElem?_cons_zero, List.getElem?_cons_succ, List.length_cons, List.length_nil, List.set_cons_zero, List.set_cons_succ, gCat_nil, gCat_int, gCat_ref, if_pos, if_neg, Option.toList_some, Option.toList_none, List.cons_append, List.nil_append, B_nar, J1_nar, J0_nar, if_true, if_false, rd_wr_same, rd_wr_ne, true_and, and_true, B_0, B_1, not_true_eq_false, not_false_eq_true, r, r2, f1, hsh, hsc, J_or, c1, c2, c3]

theorem l1b {nat : gNat} {d : Nat} {w : gWd} {x m a t : Nat} {K S : Lay} (hK : vK K) (hm : isMe w m K) (hx : x + 4 < gSTR) (hmx : m + 3 < x ∨ x + 4 < m) (ht : t + 3 < gSTR) (htm : t + 3 < m ∨ m + 3 < t) (ha : isSt w a S) (hat : a + 3 < t ∨ t + 3 < a) (hax : a + 3 < x ∨ x + 4 < a) (htx : t + 3 < x ∨ x + 4 < t) (hS : vS K S) (hn : nS S) {n : Nat} (hn1 : 1 ≤ n ∧ n ≤ 24) (hh : S 0 0 < 1000000000) : ∀ (j i : Nat) (W : gWd) (T : Lay) (mo : Int) (A1 A2 : Int → Int) (C L0 : Int → Nat) (z6 z7 : Option Value), i + j = (K 0 1).toNat → nS T → isMe W m K → isSt W a S → isSt W t T → (∀ g : Int, 0 ≤ g → g < (i : Int) → C g = 0) → (∀ g, L0 g < 65536) → W.2 = w.2 → (∀ q, (q < x ∨ x + 4 < q) → (q < t ∨ t + 3 < q) → rd W q = rd w q) → (∀ W, isSt W t T → True) → rd W x = oC 0 [.int (J mo), .ref (x + 1), .ref (x + 2), .ref (x + 3), .ref (x + 4)] → rd W (x + 1) = iC 4 (eI A1) → rd W (x + 2) = iC 4 (eI A2) → rd W (x + 3) = iC 8 (eI (cI C)) → rd W (x + 4) = iC 8 (eI (cI (clo8 K S n L0 i))) → ∃ W' T' C' z6' z7', nS T' ∧ isMe W' m K ∧ isSt W' a S ∧ isSt W' t T' ∧ (∀ g : Int, 0 ≤ g → g < K 0 1 → C' g = 0) ∧ (∀ g : Int, C' g = 0 ∨ C' g = C g) ∧ W'.2 = w.2 ∧ (∀ q, (q < x ∨ x + 4 < q) → (q < t ∨ t + 3 < q) → rd W' q = rd w q) ∧ rd W' x = oC 0 [.int (J mo), .ref (x + 1), .ref (x + 2), .ref (x + 3), .ref (x + 4)] ∧ rd W' (x + 1) = iC 4 (eI A1) ∧ rd W' (x + 2) = iC 4 (eI A2) ∧ rd W' (x + 3) = iC 8 (eI (cI C')) ∧ rd W' (x + 4) = iC 8 (eI (cI (clo8 K S n L0 (K 0 1).toNat))) ∧ gX (gC nat (d + 6)) nat 1 8 [some (.ref x), some (.ref m), some (.ref a), some (.ref t), some (.int (J n)), some (.int (J i)), z6, z7] [] [] W = gX (gC nat (d + 6)) nat 1 103 [some (.ref x), some (.ref m), some (.ref a), some (.ref t), some (.int (J n)), some (.int (J (K 0 1))), z6', z7'] [] [] W' := by
  have k1 := hK.2.1
  have k2 := hK.2.2.1
  intro j
  induction j with
  | zero =>
    intro i W T mo A1 A2 C L0 z6 z7 hi hT hm ha ht hC hL0 hw hfr _ r0 r1 r2 r3 r4
    rw [Nat.add_zero] at hi
    subst hi
    refine ⟨W, T, C, z6, z7, hT, hm, ha, ht, fun g g1 g2 => hC g g1 (by omega), fun g => Or.inr rfl, hw, hfr, r0, r1, r2, r3, r4, ?_⟩
    have r := hm.2.1
    rw [e1_8, show (((K 0 1).toNat : Nat) : Int) = K 0 1 by omega]
    simp (disch := first | omega | exact Nat.le_of_ble_eq_true rfl) only [e1_0, e1_1, e1_2, e1_5, e1_6, e1_10, e1_11, e1_14, e1_17, e1_18, e1_20, e1_21, e1_25, e1_26, e1_27, e1_30, e1_31, e1_34, e1_35, e1_36, e1_39, e1_40, e1_42, e1_44, e1_47, e1_48, e1_49, e1_51, e1_53, e1_56, e1_58, e1_61, e1_63, e1_64, e1_66, e1_67, e1_68, e1_70, e1_73, e1_77, e1_80, e1_82, e1_83, e1_86, e1_87, e1_90, e1_92, e1_94, e1_97, e1_100, e1_104, e1_105, e1_108, e1_110, e1_111, e1_112, e1_114, e1_115, e1_117, e1_120, e1_123, J_add, J_sub, J_mul, J_neg, J_lt, J_le, J_eq, gArr_J, gAst_J, gSiz_J, gFld_o, gUpd_o0, gUpd_o1, gUpd_o2, gUpd_o3, gUpd_o4, gUpd_o5, gUpd_o6, gUpd_o7, gUpd_o8, gUpd_o9, gUpd_o10, gUpd_o11, gUpd_o12, gUpd_o13, gUpd_o14, gUpd_o15, gUpd_o16, gUpd_o17, gUpd_o18, gIsO_o, Option.bind_some, List.getElem?_cons_zero, List.getElem?_cons_succ, List.length_cons, List.length_nil, List.set_cons_zero, List.set_cons_succ, gCat_nil, gCat_int, gCat_ref, if_pos, if_neg, Option.toList_some, Option.toList_none, List.cons_append, List.nil_append, B_nar, J1_nar, J0_nar, if_true, if_false, rd_wr_same, rd_wr_ne, true_and, and_true, B_0, B_1, not_true_eq_false, not_false_eq_true, r]
  | succ j ih =>
    intro i W T mo A1 A2 C L0 z6 z7 hi hT hm ha ht hC hL0 hw hfr htr r0 r1 r2 r3 r4
    have r := hm.2.1
    obtain ⟨T2, n2, g2⟩ := l1 (nat := nat) (d := d) (w := W) hK hm hx hmx ht.1 htm ha hat hax htx hS hn hn1 hh (g := i) (by omega) (2 ^ (K 0 2).toNat) 0 W T (by omega) hT hm ha ht
    have t0 : rd (putS W t T2) x = oC 0 [.int (J mo), .ref (x + 1), .ref (x + 2), .ref (x + 3), .ref (x + 4)] := by rw [rd_putS (by omega)]; exact r0
    have t3 : rd (putS W t T2) (x + 3) = iC 8 (eI (cI C)) := by rw [rd_putS (by omega)]; exact r3
    have t4 : rd (putS W t T2) (x + 4) = iC 8 (eI (cI (clo8 K S n L0 i))) := by rw [rd_putS (by omega)]; exact r4
    have c4 := s118 (nat := nat) (d := d + 5) (w := putS W t T2) (a := x + 3) (n := 8) (f := cI C) (i := i) (v := ((0 : Nat) : Int)) t3 (by omega) (by omega) (by omega)
    have c5 := s118 (nat := nat) (d := d + 5) (w := wr (putS W t T2) (x + 3) (iC 8 (eI (fset (cI C) i ((0 : Nat) : Int))))) (a := x + 4) (n := 8) (f := cI (clo8 K S n L0 i)) (i := i) (v := (clos K S n i (2 ^ (K 0 2).toNat) : Nat)) (by rw [rd_wr_ne (by omega)]; exact t4) (by omega) (by omega) (by omega)
    rw [cI_nset] at c4
    rw [cI_nset, cI_nset, show nset (clo8 K S n L0 i) i (clos K S n i (2 ^ (K 0 2).toNat)) = clo8 K S n L0 (i + 1) from by
      funext g
      unfold nset clo8
      by_cases q : g = i
      · rw [if_pos q, if_pos (by omega), q]
      · rw [if_neg q]
        by_cases q2 : 0 ≤ g ∧ g < i
        · rw [if_pos q2, if_pos (by omega)]
        · rw [if_neg q2, if_neg (by omega)]] at c5
    have hfr2 : ∀ q, (q < x ∨ x + 4 < q) → rd (wr (wr (putS W t T2) (x + 3) (iC 8 (eI (cI (nset C i 0))))) (x + 4) (iC 8 (eI (cI (clo8 K S n L0 (i + 1)))))) q = rd (putS W t T2) q := fun q hq => by rw [rd_wr_ne (by omega), rd_wr_ne (by omega)]
    obtain ⟨W', T', C', y6, y7, p1, p2, p3, p4, p5, p5b, p6, p7, p8, p9, p10, p11, p12, p13⟩ := ih (i + 1) (wr (wr (putS W t T2) (x + 3) (iC 8 (eI (cI (nset C i 0))))) (x + 4) (iC 8 (eI (cI (clo8 K S n L0 (i + 1)))))) T2 mo A1 A2 (nset C i 0) L0 (some (.int (J (clos K S n i (2 ^ (K 0 2).toNat))))) (some (.int (J (2 ^ (K 0 2).toNat : Nat)))) (by omega) n2 (isMe_fr hm (fun q q1 q2 => by rw [hfr2 q (by omega), rd_putS (by omega)])) (isSt_fr ha (fun q q1 q2 => by rw [hfr2 q (by omega), rd_putS (by omega)])) (isSt_fr (isSt_putS ht.1) (fun q q1 q2 => hfr2 q (by omega))) (fun g g1 g2 => by
      unfold nset
      split
      · rfl
      · exact hC g g1 (by omega)) hL0 hw (fun q q1 q2 => by rw [hfr2 q q1, rd_putS q2]; exact hfr q q1 q2) (fun _ _ => trivial) (by rw [rd_wr_ne (by omega), rd_wr_ne (by omega)]; exact t0) (by rw [rd_wr_ne (by omega), rd_wr_ne (by omega), rd_putS (by omega)]; exact r1) (by rw [rd_wr_ne (by omega), rd_wr_ne (by omega), rd_putS (by omega)]; exact r2) (by rw [rd_wr_ne (by omega), rd_wr_same]) rd_wr_same
    refine ⟨W', T', C', y6, y7, p1, p2, p3, p4, p5, fun g => by
      rcases p5b g with h | h
      · exact Or.inl h
      · unfold nset at h
        split at h
        · exact Or.inl h
        · exact Or.inr h, p6, p7, p8, p9, p10, p11, p12, ?_⟩
    rw [← p13, e1_8, show ((i + 1 : Nat) : Int) = (i : Int) + 1 from rfl]
    rw [show clos K S n i 0 = 0 from rfl, show ((0 : Nat) : Int) = 0 from rfl] at g2
    rw [show ((0 : Nat) : Int) = 0 from rfl] at c4
    have t1 : rd (wr (putS W t T2) (x + 3) (iC 8 (eI (cI (nset C i 0))))) x = oC 0 [.int (J mo), .ref (x + 1), .ref (x + 2), .ref (x + 3), .ref (x + 4)] := by rw [rd_wr_ne (by omega)]; exact t0
    simp (disch := first | omega | exact Nat.le_of_ble_eq_true rfl) only [e1_0, e1_1, e1_2, e1_5, e1_6, e1_10, e1_11, e1_14, e1_17, e1_18, e1_20, e1_21, e1_25, e1_26, e1_27, e1_30, e1_31, e1_34, e1_35, e1_36, e1_39, e1_40, e1_42, e1_44, e1_47, e1_48, e1_49, e1_51, e1_53, e1_56, e1_58, e1_61, e1_63, e1_64, e1_66, e1_67, e1_68, e1_70, e1_73, e1_77, e1_80, e1_82, e1_83, e1_86, e1_87, e1_90, e1_92, e1_94, e1_97, e1_100, e1_104, e1_105, e1_108, e1_110, e1_111, e1_112, e1_114, e1_115, e1_117, e1_120, e1_123, J_add, J_sub, J_mul, J_neg, J_lt, J_le, J_eq, gArr_J, gAst_J, gSiz_J, gFld_o, gUpd_o0, gUpd_o1, gUpd_o2, gUpd_o3, gUpd_o4, gUpd_o5, gUpd_o6, gUpd_o7, gUpd_o8, gUpd_o9, gUpd_o10, gUpd_o11, gUpd_o12, gUpd_o13, gUpd_o14, gUpd_o15, gUpd_o16, gUpd_o17, gUpd_o18, gIsO_o, Option.bind_some, List.getElem?_cons_zero, List.getElem?_cons_succ, List.length_cons, List.length_nil, List.set_cons_zero, List.set_cons_succ, gCat_nil, gCat_int, gCat_ref, if_pos, if_neg, Option.toList_some, Option.toList_none, List.cons_append, List.nil_append, B_nar, J1_nar, J0_nar, if_true, if_false, rd_wr_same, rd_wr_ne, true_and, and_true, B_0, B_1, not_true_eq_false, not_false_eq_true, r]
    rw [g2, e1_76]
    simp (disch := first | omega | exact Nat.le_of_ble_eq_true rfl) only [e1_0, e1_1, e1_2, e1_5, e1_6, e1_10, e1_11, e1_14, e1_17, e1_18, e1_20, e1_21, e1_25, e1_26, e1_27, e1_30, e1_31, e1_34, e1_35, e1_36, e1_39, e1_40, e1_42, e1_44, e1_47, e1_48, e1_49, e1_51, e1_53, e1_56, e1_58, e1_61, e1_63, e1_64, e1_66, e1_67, e1_68, e1_70, e1_73, e1_77, e1_80, e1_82, e1_83, e1_86, e1_87, e1_90, e1_92, e1_94, e1_97, e1_100, e1_104, e1_105, e1_108, e1_110, e1_111, e1_112, e1_114, e1_115, e1_117, e1_120, e1_123, J_add, J_sub, J_mul, J_neg, J_lt, J_le, J_eq, gArr_J, gAst_J, gSiz_J, gFld_o, gUpd_o0, gUpd_o1, gUpd_o2, gUpd_o3, gUpd_o4, gUpd_o5, gUpd_o6, gUpd_o7, gUpd_o8, gUpd_o9, gUpd_o10, gUpd_o11, gUpd_o12, gUpd_o13, gUpd_o14, gUpd_o15, gUpd_o16, gUpd_o17, gUpd_o18, gIsO_o, Option.bind_some, List.getElem?_cons_zero, List.getElem?_cons_succ, List.length_cons, List.length_nil, List.set_cons_zero, List.set_cons_succ, gCat_nil, gCat_int, gCat_ref, if_pos, if_neg, Option.toList_some, Option.toList_none, List.cons_append, List.nil_append, B_nar, J1_nar, J0_nar, if_true, if_false, rd_wr_same, rd_wr_ne, true_and, and_true, B_0, B_1, not_true_eq_false, not_false_eq_true, t0, t1, c4, c5]

theorem dl_congr {K : Lay} {cl : Nat} {L L2 : Int → Nat} (hL : ∀ g : Int, 0 ≤ g → g < K 0 1 → L g = L2 g) : ∀ (k : Nat) (y c : Int) (G : Int → Int) (C C2 : Int → Nat) (b : Int × (Int → Int)), (∀ g : Int, 0 ≤ g → g < K 0 1 → C g = C2 g) → dl K cl L k y c G C b = dl K cl L2 k y c G C2 b := by
  intro k
  induction k with
  | zero => intro y c G C C2 b _; rfl
  | succ k ih =>
    intro y c G C C2 b h
    rw [dl, dl]
    split
    · rfl
    · rw [ih _ _ _ C C2 _ h]
      congr 1
      refine rng_congr _ _ fun g b hg => ?_
      rw [h g (by omega) (by omega), hL g (by omega) (by omega)]
      split
      · rfl
      · refine ih _ _ _ _ _ _ fun i i1 i2 => ?_
        unfold nset
        split
        · rfl
        · exact h i i1 i2

theorem s1 {nat : gNat} {d : Nat} {w : gWd} {x m a t : Nat} {K S T : Lay} {mo : Int} {A1 A2 : Int → Int} {C L0 : Int → Nat} (hK : vK K) (hm : isMe w m K) (hx : x + 4 < gSTR) (hmx : m + 3 < x ∨ x + 4 < m) (htm : t + 3 < m ∨ m + 3 < t) (ha : isSt w a S) (ht : isSt w t T) (hT : nS T) (hat : a + 3 < t ∨ t + 3 < a) (hax : a + 3 < x ∨ x + 4 < a) (htx : t + 3 < x ∨ x + 4 < t) (ham : m + 3 < a ∨ a + 3 < m) (hS : vS K S) (hn : nS S) {n : Nat} (hn1 : 1 ≤ n ∧ n ≤ 24) (hh : S 0 0 < 1000000000) (hC : ∀ g, C g < 16) (hL0 : ∀ g, L0 g < 65536) (r0 : rd w x = oC 0 [.int (J mo), .ref (x + 1), .ref (x + 2), .ref (x + 3), .ref (x + 4)]) (r1 : rd w (x + 1) = iC 4 (eI A1)) (r2 : rd w (x + 2) = iC 4 (eI A2)) (r3 : rd w (x + 3) = iC 8 (eI (cI C))) (r4 : rd w (x + 4) = iC 8 (eI (cI L0))) : ∃ w' T' b1 B' G' C' L', gC nat (d + 16) 1 [.ref x, .ref m, .ref a, .ref t, .int (J n)] w = some (none, w') ∧ nS T' ∧ isSt w' t T' ∧ (∀ g, C' g < 16) ∧ (∀ g, L' g < 65536) ∧ b1 = (dl K (cbs K S (K 0 1).toNat) (fun g => clos K S n g (2 ^ (K 0 2).toNat)) (K 0 2).toNat 0 (pop (cbs K S (K 0 1).toNat)) (fun _ => 0) (fun _ => 0) (-1, A1)) ∧ rd w' x = oC 0 [.int (J b1.1), .ref (x + 1), .ref (x + 2), .ref (x + 3), .ref (x + 4)] ∧ rd w' (x + 1) = iC 4 (eI B') ∧ rd w' (x + 2) = iC 4 (eI G') ∧ rd w' (x + 3) = iC 8 (eI (cI C')) ∧ rd w' (x + 4) = iC 8 (eI (cI L')) ∧ (∀ i, 0 ≤ i → i < K 0 2 → B' i = b1.2 i) ∧ (∀ q, (q < x ∨ x + 4 < q) → (q < t ∨ t + 3 < q) → rd w' q = rd w q) ∧ w'.2 = w.2 := by
  have k1 := hK.2.1
  have k2 := hK.2.2.1
  have h16 : 2 ^ (K 0 2).toNat ≤ 2 ^ 4 := Nat.pow_le_pow_right (by decide) (by omega)
  have hfr : ∀ q, q ≠ x → rd (wr w x (oC 0 [.int (J (-1)), .ref (x + 1), .ref (x + 2), .ref (x + 3), .ref (x + 4)])) q = rd w q := fun q hq => rd_wr_ne hq
  have e8 : clo8 K S n L0 0 = L0 := by
    funext g
    unfold clo8
    rw [if_neg (by omega)]
  obtain ⟨W', T', C', z6, z7, p1, p2, p3, p4, p5, p5b, p6, p7, p8, p9, p10, p11, p12, p13⟩ := l1b (nat := nat) (d := d + 9) (w := wr w x (oC 0 [.int (J (-1)), .ref (x + 1), .ref (x + 2), .ref (x + 3), .ref (x + 4)])) hK (isMe_fr hm (fun q q1 q2 => hfr q (by omega))) hx hmx ht.1 htm (isSt_fr ha (fun q q1 q2 => hfr q (by omega))) hat hax htx hS hn hn1 hh (K 0 1).toNat 0 _ T (-1) A1 A2 C L0 none none (by omega) hT (isMe_fr hm (fun q q1 q2 => hfr q (by omega))) (isSt_fr ha (fun q q1 q2 => hfr q (by omega))) (isSt_fr ht (fun q q1 q2 => hfr q (by omega))) (fun g g1 g2 => absurd g2 (by omega)) hL0 rfl (fun _ _ _ => rfl) (fun _ _ => trivial) rd_wr_same (by rw [hfr _ (by omega)]; exact r1) (by rw [hfr _ (by omega)]; exact r2) (by rw [hfr _ (by omega)]; exact r3) (by rw [hfr _ (by omega), e8]; exact r4)
  have hL8 : ∀ g, clo8 K S n L0 (K 0 1).toNat g < 65536 := fun g => by
    unfold clo8
    split
    · exact clos_lt _ _ _ _ _ (by omega)
    · exact hL0 g
  have hC' : ∀ g, C' g < 16 := fun g => by
    rcases p5b g with h | h
    · omega
    · rw [h]; exact hC g
  have hb : ∀ g, 0 ≤ g → g < K 0 1 → 0 ≤ S 1 g ∧ S 1 g ≤ 20 := fun g g1 g2 => by
    have := hS.2.1 g g1 g2
    have := (hK.2.2.2.2.2.1 g g1 g2).2.2.2.2.2
    omega
  have hcb := cbs_lt K S (K 0 1).toNat (by omega)
  have c1 := s63 (nat := nat) (d := d + 12) (w := W') (a := a) (S := S) p2 hK ham p3.1 hb
  rw [putS_self p3] at c1
  have c2 := s192 (nat := nat) (d := d + 14) (w := W') hcb
  obtain ⟨B', G', g1, g2, g3⟩ := s3 (nat := nat) (w := W') (x := x) (cl := cbs K S (K 0 1).toNat) (L := clo8 K S n L0 (K 0 1).toNat) hK p2 hx hmx hcb hL8 (K 0 2).toNat (d + 12 - 2 * (K 0 2).toNat) 0 (pop (cbs K S (K 0 1).toNat)) A1 A2 (fun _ => 0) C' (-1, A1) (by omega) (by omega) (by have h8 : pop (cbs K S (K 0 1).toNat) ≤ 8 := popN_le _ 8; omega) (show (-10 : Int) ≤ -1 ∧ (-1 : Int) < 100 by decide) (fun i i1 i2 => absurd i2 (by omega)) (fun _ _ _ => rfl) hC'
  rw [show d + 12 - 2 * (K 0 2).toNat + 2 * (K 0 2).toNat + 3 = d + 15 by omega] at g1
  have eW : W' = putD W' x (-1) A1 A2 (cI C') (cI (clo8 K S n L0 (K 0 1).toNat)) := putD_rd rfl p8 p9 p10 p11 p12 (fun _ _ => rfl)
  rw [← eW] at g1
  have ec := dl_congr (K := K) (cl := cbs K S (K 0 1).toNat) (L := clo8 K S n L0 (K 0 1).toNat) (L2 := fun g => clos K S n g (2 ^ (K 0 2).toNat)) (fun g g1 g2 => by unfold clo8; rw [if_pos (by omega)]) (K 0 2).toNat 0 (pop (cbs K S (K 0 1).toNat)) (fun _ => 0) C' (fun _ => 0) (-1, A1) (fun g g1 g2 => p5 g g1 g2)
  rw [ec] at g1 g2
  refine ⟨_, T', _, B', G', C', clo8 K S n L0 (K 0 1).toNat, ?_, p1, isSt_fr p4 (fun q q1 q2 => rdDn (by omega)), hC', hL8, rfl, rdD0, rdD1, rdD2, rdD3, rdD4, g2, fun q q1 q2 => by rw [rdDn q1, p7 q q1 q2, hfr q (by omega)], by rw [show (putD W' x _ B' G' (cI C') (cI (clo8 K S n L0 (K 0 1).toNat))).2 = W'.2 from rfl, p6]; rfl⟩
  rw [show ((0 : Nat) : Int) = 0 from rfl] at p13
  have rm := p2.2.1
  have rx := p8
  have ra := p3.2.1
  rw [en1]
  simp (disch := first | omega | exact Nat.le_of_ble_eq_true rfl) only [e1_0, e1_1, e1_2, e1_5, e1_6, e1_10, e1_11, e1_14, e1_17, e1_18, e1_20, e1_21, e1_25, e1_26, e1_27, e1_30, e1_31, e1_34, e1_35, e1_36, e1_39, e1_40, e1_42, e1_44, e1_47, e1_48, e1_49, e1_51, e1_53, e1_56, e1_58, e1_61, e1_63, e1_64, e1_66, e1_67, e1_68, e1_70, e1_73, e1_77, e1_80, e1_82, e1_83, e1_86, e1_87, e1_90, e1_92, e1_94, e1_97, e1_100, e1_104, e1_105, e1_108, e1_110, e1_111, e1_112, e1_114, e1_115, e1_117, e1_120, e1_123, J_add, J_sub, J_mul, J_neg, J_lt, J_le, J_eq, gArr_J, gAst_J, gSiz_J, gFld_o, gUpd_o0, gUpd_o1, gUpd_o2, gUpd_o3, gUpd_o4, gUpd_o5, gUpd_o6, gUpd_o7, gUpd_o8, gUpd_o9, gUpd_o10, gUpd_o11, gUpd_o12, gUpd_o13, gUpd_o14, gUpd_o15, gUpd_o16, gUpd_o17, gUpd_o18, gIsO_o, Option.bind_some, List.getElem?_cons_zero, List.getElem?_cons_succ, List.length_cons, List.length_nil, List.set_cons_zero, List.set_cons_succ, gCat_nil, gCat_int, gCat_ref, if_pos, if_neg, Option.toList_some, Option.toList_none, List.cons_append, List.nil_append, B_nar, J1_nar, J0_nar, if_true, if_false, rd_wr_same, rd_wr_ne, true_and, and_true, B_0, B_1, not_true_eq_false, not_false_eq_true, r0]
  rw [p13, e1_103]
  simp (disch := first | omega | exact Nat.le_of_ble_eq_true rfl) only [e1_0, e1_1, e1_2, e1_5, e1_6, e1_10, e1_11, e1_14, e1_17, e1_18, e1_20, e1_21, e1_25, e1_26, e1_27, e1_30, e1_31, e1_34, e1_35, e1_36, e1_39, e1_40, e1_42, e1_44, e1_47, e1_48, e1_49, e1_51, e1_53, e1_56, e1_58, e1_61, e1_63, e1_64, e1_66, e1_67, e1_68, e1_70, e1_73, e1_77, e1_80, e1_82, e1_83, e1_86, e1_87, e1_90, e1_92, e1_94, e1_97, e1_100, e1_104, e1_105, e1_108, e1_110, e1_111, e1_112, e1_114, e1_115, e1_117, e1_120, e1_123, J_add, J_sub, J_mul, J_neg, J_lt, J_le, J_eq, gArr_J, gAst_J, gSiz_J, gFld_o, gUpd_o0, gUpd_o1, gUpd_o2, gUpd_o3, gUpd_o4, gUpd_o5, gUpd_o6, gUpd_o7, gUpd_o8, gUpd_o9, gUpd_o10, gUpd_o11, gUpd_o12, gUpd_o13, gUpd_o14, gUpd_o15, gUpd_o16, gUpd_o17, gUpd_o18, gIsO_o, Option.bind_some, List.getElem?_cons_zero, List.getElem?_cons_succ, List.length_cons, List.length_nil, List.set_cons_zero, List.set_cons_succ, gCat_nil, gCat_int, gCat_ref, if_pos, if_neg, Option.toList_some, Option.toList_none, List.cons_append, List.nil_append, B_nar, J1_nar, J0_nar, if_true, if_false, rd_wr_same, rd_wr_ne, true_and, and_true, B_0, B_1, not_true_eq_false, not_false_eq_true, rm, rx, ra, c1, c2, g1]
