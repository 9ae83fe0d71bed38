theorem mRow_at {K S : Lay} {f : Int → Int} (h : mRow K S f) {y v : Int} (hK : vK K) (hy : 0 ≤ y ∧ y < K 0 2) : mRow K (sset S 3 y v) (fset f (9 + y) v) := by
  obtain ⟨h0, h1, h2⟩ := h
  have k1 := hK.2.1
  have k2 := hK.2.2.1
  refine ⟨by rw [fset_ne (by omega), sset_row (by decide)]; exact h0, fun g g1 g2 => by rw [fset_ne (by omega), sset_row (by decide)]; exact h1 g g1 g2, fun z z1 z2 => ⟨?_, by rw [fset_ne (by omega), sset_row (by decide)]; exact (h2 z z1 z2).2⟩⟩
  rw [sset_fset]
  by_cases q : z = y
  · rw [q, fset_at, fset_at]
  · rw [fset_ne (by omega), fset_ne q]
    exact (h2 z z1 z2).1
theorem mRow_did {K S : Lay} {f : Int → Int} (h : mRow K S f) {g v : Int} (hK : vK K) (hg : 0 ≤ g ∧ g < K 0 1) : mRow K (sset S 1 g v) (fset f (1 + g) v) := by
  obtain ⟨h0, h1, h2⟩ := h
  have k1 := hK.2.1
  have k2 := hK.2.2.1
  refine ⟨by rw [fset_ne (by omega), sset_row (by decide)]; exact h0, fun z g1 g2 => ?_, fun z z1 z2 => ⟨by rw [fset_ne (by omega), sset_row (by decide)]; exact (h2 z z1 z2).1, by rw [fset_ne (by omega), sset_row (by decide)]; exact (h2 z z1 z2).2⟩⟩
  rw [sset_fset]
  by_cases q : z = g
  · rw [q, fset_at, fset_at]
  · rw [fset_ne (by omega), fset_ne q]
    exact h1 z g1 g2
theorem mRow_sent {K S : Lay} {f : Int → Int} (h : mRow K S f) {y v : Int} (hK : vK K) (hy : 0 ≤ y ∧ y < K 0 2) : mRow K (sset S 2 y v) (fset f (13 + y) v) := by
  obtain ⟨h0, h1, h2⟩ := h
  have k1 := hK.2.1
  have k2 := hK.2.2.1
  refine ⟨by rw [fset_ne (by omega), sset_row (by decide)]; exact h0, fun g g1 g2 => by rw [fset_ne (by omega), sset_row (by decide)]; exact h1 g g1 g2, fun z z1 z2 => ⟨by rw [fset_ne (by omega), sset_row (by decide)]; exact (h2 z z1 z2).1, ?_⟩⟩
  rw [sset_fset]
  by_cases q : z = y
  · rw [q, fset_at, fset_at]
  · rw [fset_ne (by omega), fset_ne q]
    exact (h2 z z1 z2).2
theorem mRow_h {K S : Lay} {f : Int → Int} (h : mRow K S f) {v : Int} (hK : vK K) : mRow K (sset S 0 0 v) (fset f 0 v) := by
  obtain ⟨h0, h1, h2⟩ := h
  refine ⟨by rw [fset_at, sset_at], fun g g1 g2 => by rw [fset_ne (by omega), sset_row (by decide)]; exact h1 g g1 g2, fun z z1 z2 => ⟨by rw [fset_ne (by omega), sset_row (by decide)]; exact (h2 z z1 z2).1, by rw [fset_ne (by omega), sset_row (by decide)]; exact (h2 z z1 z2).2⟩⟩
/-- a row after calling off the first so many of those sent to g -/
def coffF (f : Int → Int) (g : Int) (n : Nat) : Int → Int := fun k => if 13 ≤ k ∧ k < 13 + (n : Int) ∧ f k = g then -4 else f k
theorem coffF_z (f : Int → Int) (g : Int) : coffF f g 0 = f := by
  funext k
  unfold coffF
  rw [if_neg (by omega)]
theorem coffF_s (f : Int → Int) (g : Int) (n : Nat) : fset (coffF f g n) (13 + n) (if f (13 + (n : Int)) = g then -4 else f (13 + (n : Int))) = coffF f g (n + 1) := by
  funext k
  unfold fset coffF
  by_cases q : k = 13 + (n : Int)
  · subst q
    rw [if_pos rfl]
    by_cases h : f (13 + (n : Int)) = g
    · rw [if_pos h, if_pos (by omega)]
    · rw [if_neg h, if_neg (fun z => h z.2.2)]
  · rw [if_neg q]
    by_cases h : 13 ≤ k ∧ k < 13 + (n : Int) ∧ f k = g
    · rw [if_pos h, if_pos (by omega)]
    · rw [if_neg h, if_neg (by omega)]
theorem mRow_coff {K S : Lay} {f : Int → Int} (h : mRow K S f) (hK : vK K) {g : Int} {n : Nat} (hn : (n : Int) = K 0 2) : mRow K (coff S g) (coffF f g n) := by
  obtain ⟨h0, h1, h2⟩ := h
  have k1 := hK.2.1
  have k2 := hK.2.2.1
  refine ⟨?_, fun z g1 g2 => ?_, fun z z1 z2 => ⟨?_, ?_⟩⟩
  · unfold coffF coff
    rw [if_neg (by omega), if_neg (by omega)]
    exact h0
  · unfold coffF coff
    rw [if_neg (by omega), if_neg (by omega)]
    exact h1 z g1 g2
  · unfold coffF coff
    rw [if_neg (by omega), if_neg (by omega)]
    exact (h2 z z1 z2).1
  · unfold coffF coff
    rw [(h2 z z1 z2).2]
    by_cases q : S 2 z = g
    · rw [if_pos (by omega), if_pos (by omega)]
    · rw [if_neg (by omega), if_neg (by omega)]
theorem coffF_1 (f : Int → Int) (g : Int) (n : Nat) {k : Int} (h : k < 13) : coffF f g n k = f k := by
  unfold coffF
  rw [if_neg (by omega)]
theorem l147 {nat : gNat} {d : Nat} {w : gWd} {x : Nat} {M K : Lay} (hx : x + 12 < gSTR) (hL : mLaw K (M 5)) (hK : vK K) {r : Nat} (hr : r = 6 ∨ r = 7) {f : Int → Int} {g : Int} (hg : 0 ≤ g ∧ g < K 0 1) (hf : f (1 + g) = K 1 (5 * g + 4)) (hfb : ∀ y, 0 ≤ y → y < K 0 2 → -4 ≤ f (13 + y) ∧ f (13 + y) < 8) {z2 z4 z5 z6 z7 : Option Value} {N : Nat} (hN : (N : Int) = K 0 2) : ∀ (k n : Nat), n + k = N → gX (gC nat (d + 2)) nat 147 128 [some (.ref x), some (.ref (x + r)), z2, some (.int (J g)), z4, z5, z6, z7, some (.int (J n))] [] [] (putM w x (rset M r (coffF f g n))) = some (none, putM w x (rset M r (coffF f g N))) := by
  obtain ⟨k0, k1, k2, k3, k4, kg, kd, kr⟩ := id hK
  obtain ⟨f0, f1, f2, f3, f4, fr, fg, fd⟩ := id hL
  intro k
  induction k with
  | zero =>
    intro n hn
    rw [Nat.add_zero] at hn
    subst hn
    have e5 := mn5 (M := M) (f := coffF f g n) hr
    have e2 : (rset M r (coffF f g n)) 5 2 = K 0 2 := by rw [e5]; exact f2
    rw [e147_128]
    simp (disch := first | omega | exact Nat.le_of_ble_eq_true rfl) only [e147_0, e147_1, e147_3, e147_4, e147_5, e147_6, e147_7, e147_8, e147_9, e147_10, e147_13, e147_15, e147_16, e147_19, e147_21, e147_22, e147_23, e147_24, e147_25, e147_26, e147_27, e147_28, e147_30, e147_32, e147_33, e147_35, e147_36, e147_37, e147_38, e147_39, e147_41, e147_43, e147_46, e147_47, e147_49, e147_50, e147_51, e147_52, e147_53, e147_55, e147_57, e147_60, e147_62, e147_65, e147_67, e147_69, e147_70, e147_73, e147_75, e147_76, e147_79, e147_81, e147_82, e147_83, e147_84, e147_85, e147_86, e147_87, e147_88, e147_89, e147_90, e147_91, e147_92, e147_95, e147_96, e147_98, e147_99, e147_100, e147_101, e147_102, e147_104, e147_105, e147_106, e147_107, e147_110, e147_113, e147_114, e147_115, e147_116, e147_119, e147_122, e147_124, e147_125, e147_126, e147_130, e147_131, e147_134, e147_135, e147_136, e147_139, e147_140, e147_141, e147_142, e147_145, e147_148, e147_149, e147_151, e147_153, e147_154, e147_155, e147_157, e147_159, e147_160, e147_161, e147_162, e147_165, e147_167, e147_170, e147_171, e147_173, e147_175, e147_176, e147_177, e147_178, e147_181, e147_184, J_add, J_sub, J_mul, J_neg, J_lt, J_le, J_eq, gArr_J, gAst_J, gSiz_J, gFld_o, gUpd_o0, gUpd_o1, gUpd_o2, gUpd_o3, gUpd_o4, gUpd_o5, gUpd_o6, gUpd_o7, gUpd_o8, gUpd_o9, gUpd_o10, gUpd_o11, gUpd_o12, gUpd_o13, gUpd_o14, gUpd_o15, gUpd_o16, gUpd_o17, gUpd_o18, gIsO_o, Option.bind_some, List.getElem?_cons_zero, List.getElem?_cons_succ, List.length_cons, List.length_nil, List.set_cons_zero, List.set_cons_succ, gCat_nil, gCat_int, gCat_ref, if_pos, if_neg, Option.toList_some, Option.toList_none, List.cons_append, List.nil_append, B_nar, J1_nar, J0_nar, if_true, if_false, rd_wr_same, rd_wr_ne, true_and, and_true, B_0, B_1, not_true_eq_false, not_false_eq_true, rdM0, rdM1, rdM2, rdM3, rdM4, rdM5, rdM6, rdM7, rdM8, rdM9, rdM10, rdM11, rdM12, wM1, wM2, wM3, wM4, wM5, wM6, wM7, wM8, wM9, wM10, wM11, wM12, wM0_0, wM0_1, wM0_2, wM0_3, wM0_4, wM0_5, wM0_6, e2]
  | succ k ih =>
    intro n hn
    have e5 := mn5 (M := M) (f := coffF f g n) hr
    have e2 : (rset M r (coffF f g n)) 5 2 = K 0 2 := by rw [e5]; exact f2
    have c1 := s141 (nat := nat) (d := d) (w := w) (M := rset M r (coffF f g n)) hx (by rw [e5]; exact hL) hK (g := g) (i := 4) hg (by omega)
    have q4 := (kg g hg.1 hg.2).2.2.2.2.2
    have hq := rdMr (w := w) (x := x) (M := rset M r (coffF f g n)) hr
    rw [rset_at] at hq
    have hw : ∀ v, wr (putM w x (rset M r (coffF f g n))) (x + r) (iC 17 (eI (fset (coffF f g n) (13 + n) v))) = putM w x (rset M r (fset (coffF f g n) (13 + n) v)) := fun v => by
      have h := wMr (w := w) (x := x) (M := rset M r (coffF f g n)) hr (i := 13 + n) (v := v)
      rw [rset_at, rset_rset] at h
      exact h
    have c2 : gC nat (d + 2) 142 [.ref x, .ref (x + r), .int (J g)] (putM w x (rset M r (coffF f g n))) = some (some (.int (J 1)), putM w x (rset M r (coffF f g n))) := by
      have e1 : coffF f g n (1 + g) = K 1 (5 * g + 4) := by rw [coffF_1 _ _ _ (by omega)]; exact hf
      rw [en142]
      simp (disch := first | omega | exact Nat.le_of_ble_eq_true rfl) only [e142_0, e142_1, e142_2, e142_3, e142_4, e142_5, e142_6, e142_7, e142_8, e142_11, e142_14, e142_15, e142_18, e142_19, J_add, J_sub, J_mul, J_neg, J_lt, J_le, J_eq, gArr_J, gAst_J, gSiz_J, gFld_o, gUpd_o0, gUpd_o1, gUpd_o2, gUpd_o3, gUpd_o4, gUpd_o5, gUpd_o6, gUpd_o7, gUpd_o8, gUpd_o9, gUpd_o10, gUpd_o11, gUpd_o12, gUpd_o13, gUpd_o14, gUpd_o15, gUpd_o16, gUpd_o17, gUpd_o18, gIsO_o, Option.bind_some, List.getElem?_cons_zero, List.getElem?_cons_succ, List.length_cons, List.length_nil, List.set_cons_zero, List.set_cons_succ, gCat_nil, gCat_int, gCat_ref, if_pos, if_neg, Option.toList_some, Option.toList_none, List.cons_append, List.nil_append, B_nar, J1_nar, J0_nar, if_true, if_false, rd_wr_same, rd_wr_ne, true_and, and_true, B_0, B_1, not_true_eq_false, not_false_eq_true, rdM0, rdM1, rdM2, rdM3, rdM4, rdM5, rdM6, rdM7, rdM8, rdM9, rdM10, rdM11, rdM12, wM1, wM2, wM3, wM4, wM5, wM6, wM7, wM8, wM9, wM10, wM11, wM12, wM0_0, wM0_1, wM0_2, wM0_3, wM0_4, wM0_5, wM0_6, hq, c1, e1]
    have en : coffF f g n (13 + (n : Int)) = f (13 + (n : Int)) := by
      unfold coffF
      rw [if_neg (by omega)]
    have hb := hfb n (by omega) (by omega)
    have this := ih (n + 1) (by omega)
    rw [← coffF_s, show ((n + 1 : Nat) : Int) = (n : Int) + 1 from rfl] at this
    rw [e147_128]
    by_cases h : f (13 + (n : Int)) = g
    · rw [if_pos h] at this
      simp (disch := first | omega | exact Nat.le_of_ble_eq_true rfl) only [e147_0, e147_1, e147_3, e147_4, e147_5, e147_6, e147_7, e147_8, e147_9, e147_10, e147_13, e147_15, e147_16, e147_19, e147_21, e147_22, e147_23, e147_24, e147_25, e147_26, e147_27, e147_28, e147_30, e147_32, e147_33, e147_35, e147_36, e147_37, e147_38, e147_39, e147_41, e147_43, e147_46, e147_47, e147_49, e147_50, e147_51, e147_52, e147_53, e147_55, e147_57, e147_60, e147_62, e147_65, e147_67, e147_69, e147_70, e147_73, e147_75, e147_76, e147_79, e147_81, e147_82, e147_83, e147_84, e147_85, e147_86, e147_87, e147_88, e147_89, e147_90, e147_91, e147_92, e147_95, e147_96, e147_98, e147_99, e147_100, e147_101, e147_102, e147_104, e147_105, e147_106, e147_107, e147_110, e147_113, e147_114, e147_115, e147_116, e147_119, e147_122, e147_124, e147_125, e147_126, e147_130, e147_131, e147_134, e147_135, e147_136, e147_139, e147_140, e147_141, e147_142, e147_145, e147_148, e147_149, e147_151, e147_153, e147_154, e147_155, e147_157, e147_159, e147_160, e147_161, e147_162, e147_165, e147_167, e147_170, e147_171, e147_173, e147_175, e147_176, e147_177, e147_178, e147_181, e147_184, J_add, J_sub, J_mul, J_neg, J_lt, J_le, J_eq, gArr_J, gAst_J, gSiz_J, gFld_o, gUpd_o0, gUpd_o1, gUpd_o2, gUpd_o3, gUpd_o4, gUpd_o5, gUpd_o6, gUpd_o7, gUpd_o8, gUpd_o9, gUpd_o10, gUpd_o11, gUpd_o12, gUpd_o13, gUpd_o14, gUpd_o15, gUpd_o16, gUpd_o17, gUpd_o18, gIsO_o, Option.bind_some, List.getElem?_cons_zero, List.getElem?_cons_succ, List.length_cons, List.length_nil, List.set_cons_zero, List.set_cons_succ, gCat_nil, gCat_int, gCat_ref, if_pos, if_neg, Option.toList_some, Option.toList_none, List.cons_append, List.nil_append, B_nar, J1_nar, J0_nar, if_true, if_false, rd_wr_same, rd_wr_ne, true_and, and_true, B_0, B_1, not_true_eq_false, not_false_eq_true, rdM0, rdM1, rdM2, rdM3, rdM4, rdM5, rdM6, rdM7, rdM8, rdM9, rdM10, rdM11, rdM12, wM1, wM2, wM3, wM4, wM5, wM6, wM7, wM8, wM9, wM10, wM11, wM12, wM0_0, wM0_1, wM0_2, wM0_3, wM0_4, wM0_5, wM0_6, e2, c2, hq, hw, en, this]
    · rw [if_neg h] at this
      simp (disch := first | omega | exact Nat.le_of_ble_eq_true rfl) only [e147_0, e147_1, e147_3, e147_4, e147_5, e147_6, e147_7, e147_8, e147_9, e147_10, e147_13, e147_15, e147_16, e147_19, e147_21, e147_22, e147_23, e147_24, e147_25, e147_26, e147_27, e147_28, e147_30, e147_32, e147_33, e147_35, e147_36, e147_37, e147_38, e147_39, e147_41, e147_43, e147_46, e147_47, e147_49, e147_50, e147_51, e147_52, e147_53, e147_55, e147_57, e147_60, e147_62, e147_65, e147_67, e147_69, e147_70, e147_73, e147_75, e147_76, e147_79, e147_81, e147_82, e147_83, e147_84, e147_85, e147_86, e147_87, e147_88, e147_89, e147_90, e147_91, e147_92, e147_95, e147_96, e147_98, e147_99, e147_100, e147_101, e147_102, e147_104, e147_105, e147_106, e147_107, e147_110, e147_113, e147_114, e147_115, e147_116, e147_119, e147_122, e147_124, e147_125, e147_126, e147_130, e147_131, e147_134, e147_135, e147_136, e147_139, e147_140, e147_141, e147_142, e147_145, e147_148, e147_149, e147_151, e147_153, e147_154, e147_155, e147_157, e147_159, e147_160, e147_161, e147_162, e147_165, e147_167, e147_170, e147_171, e147_173, e147_175, e147_176, e147_177, e147_178, e147_181, e147_184, J_add, J_sub, J_mul, J_neg, J_lt, J_le, J_eq, gArr_J, gAst_J, gSiz_J, gFld_o, gUpd_o0, gUpd_o1, gUpd_o2, gUpd_o3, gUpd_o4, gUpd_o5, gUpd_o6, gUpd_o7, gUpd_o8, gUpd_o9, gUpd_o10, gUpd_o11, gUpd_o12, gUpd_o13, gUpd_o14, gUpd_o15, gUpd_o16, gUpd_o17, gUpd_o18, gIsO_o, Option.bind_some, List.getElem?_cons_zero, List.getElem?_cons_succ, List.length_cons, List.length_nil, List.set_cons_zero, List.set_cons_succ, gCat_nil, gCat_int, gCat_ref, if_pos, if_neg, Option.toList_some, Option.toList_none, List.cons_append, List.nil_append, B_nar, J1_nar, J0_nar, if_true, if_false, rd_wr_same, rd_wr_ne, true_and, and_true, B_0, B_1, not_true_eq_false, not_false_eq_true, rdM0, rdM1, rdM2, rdM3, rdM4, rdM5, rdM6, rdM7, rdM8, rdM9, rdM10, rdM11, rdM12, wM1, wM2, wM3, wM4, wM5, wM6, wM7, wM8, wM9, wM10, wM11, wM12, wM0_0, wM0_1, wM0_2, wM0_3, wM0_4, wM0_5, wM0_6, e2, c2, hq, hw, en, this]


theorem s147 {nat : gNat} {d : Nat} {w : gWd} {x : Nat} {M K : Lay} (hx : x + 12 < gSTR) (hL : mLaw K (M 5)) (hK : vK K) {r : Nat} (hr : r = 6 ∨ r = 7) {S : Lay} (hR : mRow K S (M (r : Int))) (hS : vS K S) {y : Int} (hy : 0 ≤ y ∧ y < K 0 2) (hn : S 2 y ≠ -4) : ∃ f', gC nat (d + 3) 147 [.ref x, .ref (x + r), .int (J y)] (putM w x M) = some (none, putM w x (rset M r f')) ∧ mRow K (fly K S y) f' := by
  obtain ⟨k0, k1, k2, k3, k4, kg, kd, kr⟩ := id hK
  obtain ⟨f0, f1, f2, f3, f4, fr, fg, fd⟩ := id hL
  have hs2 := hS.2.2.1 y hy.1 (by omega)
  have hs3 := hS.2.2.2 y hy.1 hy.2
  obtain ⟨-, g1, g2, g3⟩ := hs2.resolve_left hn
  have hs1 := hS.2.1 _ g1 g2
  obtain ⟨q0, q1, q2, q3, q4, q5⟩ := kg _ g1 g2
  obtain ⟨e0, e1, e2⟩ := kd y hy.1 hy.2
  have hq := rdMr (w := w) (x := x) (M := M) hr
  have hw := fun i v => wMr (w := w) (x := x) (M := M) hr (i := i) (v := v)
  have p1 := (hR.2.2 y hy.1 hy.2).2
  have p2 := (hR.2.2 y hy.1 hy.2).1
  have p3 := (fd y hy.1 hy.2).2
  have p4 := hR.2.1 _ g1 g2
  have c3 := s141 (nat := nat) (d := d + 1) (w := w) hx hL hK (g := S 2 y) (i := 3) ⟨g1, g2⟩ (by omega)
  have c4 := s141 (nat := nat) (d := d + 1) (w := w) hx hL hK (g := S 2 y) (i := 4) ⟨g1, g2⟩ (by omega)
  have c5 := s146 (nat := nat) (d := d) (w := w) hx hL hK (y := y) (g := S 2 y) hy ⟨g1, g2⟩
  have hsw := sew_in K y (S 2 y)
  unfold fly
  rw [if_neg hn]
  by_cases h1 : K 1 (5 * S 2 y + 3) - S 3 y ≠ 0
  · rw [if_pos h1]
    refine ⟨fset (M (r : Int)) (9 + y) (S 3 y + step1 (K 2 (3 * y + 2)) (K 1 (5 * S 2 y + 3) - S 3 y)), ?_, mRow_at hR hK hy⟩
    rw [en147]
    generalize hfar : K 1 (5 * S 2 y + 3) - S 3 y = far at *
    unfold step1
    by_cases h2 : far < K 2 (3 * y + 2)
    · rw [if_pos h2]
      by_cases h3 : -K 2 (3 * y + 2) < far
      · rw [if_pos h3]
        simp (disch := first | omega | exact Nat.le_of_ble_eq_true rfl) only [e147_0, e147_1, e147_3, e147_4, e147_5, e147_6, e147_7, e147_8, e147_9, e147_10, e147_13, e147_15, e147_16, e147_19, e147_21, e147_22, e147_23, e147_24, e147_25, e147_26, e147_27, e147_28, e147_30, e147_32, e147_33, e147_35, e147_36, e147_37, e147_38, e147_39, e147_41, e147_43, e147_46, e147_47, e147_49, e147_50, e147_51, e147_52, e147_53, e147_55, e147_57, e147_60, e147_62, e147_65, e147_67, e147_69, e147_70, e147_73, e147_75, e147_76, e147_79, e147_81, e147_82, e147_83, e147_84, e147_85, e147_86, e147_87, e147_88, e147_89, e147_90, e147_91, e147_92, e147_95, e147_96, e147_98, e147_99, e147_100, e147_101, e147_102, e147_104, e147_105, e147_106, e147_107, e147_110, e147_113, e147_114, e147_115, e147_116, e147_119, e147_122, e147_124, e147_125, e147_126, e147_130, e147_131, e147_134, e147_135, e147_136, e147_139, e147_140, e147_141, e147_142, e147_145, e147_148, e147_149, e147_151, e147_153, e147_154, e147_155, e147_157, e147_159, e147_160, e147_161, e147_162, e147_165, e147_167, e147_170, e147_171, e147_173, e147_175, e147_176, e147_177, e147_178, e147_181, e147_184, J_add, J_sub, J_mul, J_neg, J_lt, J_le, J_eq, gArr_J, gAst_J, gSiz_J, gFld_o, gUpd_o0, gUpd_o1, gUpd_o2, gUpd_o3, gUpd_o4, gUpd_o5, gUpd_o6, gUpd_o7, gUpd_o8, gUpd_o9, gUpd_o10, gUpd_o11, gUpd_o12, gUpd_o13, gUpd_o14, gUpd_o15, gUpd_o16, gUpd_o17, gUpd_o18, gIsO_o, Option.bind_some, List.getElem?_cons_zero, List.getElem?_cons_succ, List.length_cons, List.length_nil, List.set_cons_zero, List.set_cons_succ, gCat_nil, gCat_int, gCat_ref, if_pos, if_neg, Option.toList_some, Option.toList_none, List.cons_append, List.nil_append, B_nar, J1_nar, J0_nar, if_true, if_false, rd_wr_same, rd_wr_ne, true_and, and_true, B_0, B_1, not_true_eq_false, not_false_eq_true, rdM0, rdM1, rdM2, rdM3, rdM4, rdM5, rdM6, rdM7, rdM8, rdM9, rdM10, rdM11, rdM12, wM1, wM2, wM3, wM4, wM5, wM6, wM7, wM8, wM9, wM10, wM11, wM12, wM0_0, wM0_1, wM0_2, wM0_3, wM0_4, wM0_5, wM0_6, hq, hw, p1, p2, p3, c3, hfar]
      · rw [if_neg h3]
        by_cases h4 : far = -K 2 (3 * y + 2)
        · rw [← h4]
          simp (disch := first | omega | exact Nat.le_of_ble_eq_true rfl) only [e147_0, e147_1, e147_3, e147_4, e147_5, e147_6, e147_7, e147_8, e147_9, e147_10, e147_13, e147_15, e147_16, e147_19, e147_21, e147_22, e147_23, e147_24, e147_25, e147_26, e147_27, e147_28, e147_30, e147_32, e147_33, e147_35, e147_36, e147_37, e147_38, e147_39, e147_41, e147_43, e147_46, e147_47, e147_49, e147_50, e147_51, e147_52, e147_53, e147_55, e147_57, e147_60, e147_62, e147_65, e147_67, e147_69, e147_70, e147_73, e147_75, e147_76, e147_79, e147_81, e147_82, e147_83, e147_84, e147_85, e147_86, e147_87, e147_88, e147_89, e147_90, e147_91, e147_92, e147_95, e147_96, e147_98, e147_99, e147_100, e147_101, e147_102, e147_104, e147_105, e147_106, e147_107, e147_110, e147_113, e147_114, e147_115, e147_116, e147_119, e147_122, e147_124, e147_125, e147_126, e147_130, e147_131, e147_134, e147_135, e147_136, e147_139, e147_140, e147_141, e147_142, e147_145, e147_148, e147_149, e147_151, e147_153, e147_154, e147_155, e147_157, e147_159, e147_160, e147_161, e147_162, e147_165, e147_167, e147_170, e147_171, e147_173, e147_175, e147_176, e147_177, e147_178, e147_181, e147_184, J_add, J_sub, J_mul, J_neg, J_lt, J_le, J_eq, gArr_J, gAst_J, gSiz_J, gFld_o, gUpd_o0, gUpd_o1, gUpd_o2, gUpd_o3, gUpd_o4, gUpd_o5, gUpd_o6, gUpd_o7, gUpd_o8, gUpd_o9, gUpd_o10, gUpd_o11, gUpd_o12, gUpd_o13, gUpd_o14, gUpd_o15, gUpd_o16, gUpd_o17, gUpd_o18, gIsO_o, Option.bind_some, List.getElem?_cons_zero, List.getElem?_cons_succ, List.length_cons, List.length_nil, List.set_cons_zero, List.set_cons_succ, gCat_nil, gCat_int, gCat_ref, if_pos, if_neg, Option.toList_some, Option.toList_none, List.cons_append, List.nil_append, B_nar, J1_nar, J0_nar, if_true, if_false, rd_wr_same, rd_wr_ne, true_and, and_true, B_0, B_1, not_true_eq_false, not_false_eq_true, rdM0, rdM1, rdM2, rdM3, rdM4, rdM5, rdM6, rdM7, rdM8, rdM9, rdM10, rdM11, rdM12, wM1, wM2, wM3, wM4, wM5, wM6, wM7, wM8, wM9, wM10, wM11, wM12, wM0_0, wM0_1, wM0_2, wM0_3, wM0_4, wM0_5, wM0_6, hq, hw, p1, p2, p3, c3, hfar]
        ·
          simp (disch := first | omega | exact Nat.le_of_ble_eq_true rfl) only [e147_0, e147_1, e147_3, e147_4, e147_5, e147_6, e147_7, e147_8, e147_9, e147_10, e147_13, e147_15, e147_16, e147_19, e147_21, e147_22, e147_23, e147_24, e147_25, e147_26, e147_27, e147_28, e147_30, e147_32, e147_33, e147_35, e147_36, e147_37, e147_38, e147_39, e147_41, e147_43, e147_46, e147_47, e147_49, e147_50, e147_51, e147_52, e147_53, e147_55, e147_57, e147_60, e147_62, e147_65, e147_67, e147_69, e147_70, e147_73, e147_75, e147_76, e147_79, e147_81, e147_82, e147_83, e147_84, e147_85, e147_86, e147_87, e147_88, e147_89, e147_90, e147_91, e147_92, e147_95, e147_96, e147_98, e147_99, e147_100, e147_101, e147_102, e147_104, e147_105, e147_106, e147_107, e147_110, e147_113, e147_114, e147_115, e147_116, e147_119, e147_122, e147_124, e147_125, e147_126, e147_130, e147_131, e147_134, e147_135, e147_136, e147_139, e147_140, e147_141, e147_142, e147_145, e147_148, e147_149, e147_151, e147_153, e147_154, e147_155, e147_157, e147_159, e147_160, e147_161, e147_162, e147_165, e147_167, e147_170, e147_171, e147_173, e147_175, e147_176, e147_177, e147_178, e147_181, e147_184, J_add, J_sub, J_mul, J_neg, J_lt, J_le, J_eq, gArr_J, gAst_J, gSiz_J, gFld_o, gUpd_o0, gUpd_o1, gUpd_o2, gUpd_o3, gUpd_o4, gUpd_o5, gUpd_o6, gUpd_o7, gUpd_o8, gUpd_o9, gUpd_o10, gUpd_o11, gUpd_o12, gUpd_o13, gUpd_o14, gUpd_o15, gUpd_o16, gUpd_o17, gUpd_o18, gIsO_o, Option.bind_some, List.getElem?_cons_zero, List.getElem?_cons_succ, List.length_cons, List.length_nil, List.set_cons_zero, List.set_cons_succ, gCat_nil, gCat_int, gCat_ref, if_pos, if_neg, Option.toList_some, Option.toList_none, List.cons_append, List.nil_append, B_nar, J1_nar, J0_nar, if_true, if_false, rd_wr_same, rd_wr_ne, true_and, and_true, B_0, B_1, not_true_eq_false, not_false_eq_true, rdM0, rdM1, rdM2, rdM3, rdM4, rdM5, rdM6, rdM7, rdM8, rdM9, rdM10, rdM11, rdM12, wM1, wM2, wM3, wM4, wM5, wM6, wM7, wM8, wM9, wM10, wM11, wM12, wM0_0, wM0_1, wM0_2, wM0_3, wM0_4, wM0_5, wM0_6, hq, hw, p1, p2, p3, c3, hfar]
    · rw [if_neg h2]
      by_cases h4 : far = K 2 (3 * y + 2)
      · rw [← h4]
        simp (disch := first | omega | exact Nat.le_of_ble_eq_true rfl) only [e147_0, e147_1, e147_3, e147_4, e147_5, e147_6, e147_7, e147_8, e147_9, e147_10, e147_13, e147_15, e147_16, e147_19, e147_21, e147_22, e147_23, e147_24, e147_25, e147_26, e147_27, e147_28, e147_30, e147_32, e147_33, e147_35, e147_36, e147_37, e147_38, e147_39, e147_41, e147_43, e147_46, e147_47, e147_49, e147_50, e147_51, e147_52, e147_53, e147_55, e147_57, e147_60, e147_62, e147_65, e147_67, e147_69, e147_70, e147_73, e147_75, e147_76, e147_79, e147_81, e147_82, e147_83, e147_84, e147_85, e147_86, e147_87, e147_88, e147_89, e147_90, e147_91, e147_92, e147_95, e147_96, e147_98, e147_99, e147_100, e147_101, e147_102, e147_104, e147_105, e147_106, e147_107, e147_110, e147_113, e147_114, e147_115, e147_116, e147_119, e147_122, e147_124, e147_125, e147_126, e147_130, e147_131, e147_134, e147_135, e147_136, e147_139, e147_140, e147_141, e147_142, e147_145, e147_148, e147_149, e147_151, e147_153, e147_154, e147_155, e147_157, e147_159, e147_160, e147_161, e147_162, e147_165, e147_167, e147_170, e147_171, e147_173, e147_175, e147_176, e147_177, e147_178, e147_181, e147_184, J_add, J_sub, J_mul, J_neg, J_lt, J_le, J_eq, gArr_J, gAst_J, gSiz_J, gFld_o, gUpd_o0, gUpd_o1, gUpd_o2, gUpd_o3, gUpd_o4, gUpd_o5, gUpd_o6, gUpd_o7, gUpd_o8, gUpd_o9, gUpd_o10, gUpd_o11, gUpd_o12, gUpd_o13, gUpd_o14, gUpd_o15, gUpd_o16, gUpd_o17, gUpd_o18, gIsO_o, Option.bind_some, List.getElem?_cons_zero, List.getElem?_cons_succ, List.length_cons, List.length_nil, List.set_cons_zero, List.set_cons_succ, gCat_nil, gCat_int, gCat_ref, if_pos, if_neg, Option.toList_some, Option.toList_none, List.cons_append, List.nil_append, B_nar, J1_nar, J0_nar, if_true, if_false, rd_wr_same, rd_wr_ne, true_and, and_true, B_0, B_1, not_true_eq_false, not_false_eq_true, rdM0, rdM1, rdM2, rdM3, rdM4, rdM5, rdM6, rdM7, rdM8, rdM9, rdM10, rdM11, rdM12, wM1, wM2, wM3, wM4, wM5, wM6, wM7, wM8, wM9, wM10, wM11, wM12, wM0_0, wM0_1, wM0_2, wM0_3, wM0_4, wM0_5, wM0_6, hq, hw, p1, p2, p3, c3, hfar]
      ·
        simp (disch := first | omega | exact Nat.le_of_ble_eq_true rfl) only [e147_0, e147_1, e147_3, e147_4, e147_5, e147_6, e147_7, e147_8, e147_9, e147_10, e147_13, e147_15, e147_16, e147_19, e147_21, e147_22, e147_23, e147_24, e147_25, e147_26, e147_27, e147_28, e147_30, e147_32, e147_33, e147_35, e147_36, e147_37, e147_38, e147_39, e147_41, e147_43, e147_46, e147_47, e147_49, e147_50, e147_51, e147_52, e147_53, e147_55, e147_57, e147_60, e147_62, e147_65, e147_67, e147_69, e147_70, e147_73, e147_75, e147_76, e147_79, e147_81, e147_82, e147_83, e147_84, e147_85, e147_86, e147_87, e147_88, e147_89, e147_90, e147_91, e147_92, e147_95, e147_96, e147_98, e147_99, e147_100, e147_101, e147_102, e147_104, e147_105, e147_106, e147_107, e147_110, e147_113, e147_114, e147_115, e147_116, e147_119, e147_122, e147_124, e147_125, e147_126, e147_130, e147_131, e147_134, e147_135, e147_136, e147_139, e147_140, e147_141, e147_142, e147_145, e147_148, e147_149, e147_151, e147_153, e147_154, e147_155, e147_157, e147_159, e147_160, e147_161, e147_162, e147_165, e147_167, e147_170, e147_171, e147_173, e147_175, e147_176, e147_177, e147_178, e147_181, e147_184, J_add, J_sub, J_mul, J_neg, J_lt, J_le, J_eq, gArr_J, gAst_J, gSiz_J, gFld_o, gUpd_o0, gUpd_o1, gUpd_o2, gUpd_o3, gUpd_o4, gUpd_o5, gUpd_o6, gUpd_o7, gUpd_o8, gUpd_o9, gUpd_o10, gUpd_o11, gUpd_o12, gUpd_o13, gUpd_o14, gUpd_o15, gUpd_o16, gUpd_o17, gUpd_o18, gIsO_o, Option.bind_some, List.getElem?_cons_zero, List.getElem?_cons_succ, List.length_cons, List.length_nil, List.set_cons_zero, List.set_cons_succ, gCat_nil, gCat_int, gCat_ref, if_pos, if_neg, Option.toList_some, Option.toList_none, List.cons_append, List.nil_append, B_nar, J1_nar, J0_nar, if_true, if_false, rd_wr_same, rd_wr_ne, true_and, and_true, B_0, B_1, not_true_eq_false, not_false_eq_true, rdM0, rdM1, rdM2, rdM3, rdM4, rdM5, rdM6, rdM7, rdM8, rdM9, rdM10, rdM11, rdM12, wM1, wM2, wM3, wM4, wM5, wM6, wM7, wM8, wM9, wM10, wM11, wM12, wM0_0, wM0_1, wM0_2, wM0_3, wM0_4, wM0_5, wM0_6, hq, hw, p1, p2, p3, c3, hfar]
  · rw [if_neg h1]
    have h0 : K 1 (5 * S 2 y + 3) - S 3 y = 0 := by omega
    by_cases h2 : S 1 (S 2 y) + sew K y (S 2 y) < K 1 (5 * S 2 y + 4)
    · rw [if_pos h2]
      refine ⟨fset (M (r : Int)) (1 + S 2 y) (S 1 (S 2 y) + sew K y (S 2 y)), ?_, mRow_did hR hK ⟨g1, g2⟩⟩
      have c6 : gC nat (d + 2) 142 [.ref x, .ref (x + r), .int (J (S 2 y))] (putM w x (rset M r (fset (M (r : Int)) (1 + S 2 y) (S 1 (S 2 y) + sew K y (S 2 y))))) = some (some (.int (J 0)), putM w x (rset M r (fset (M (r : Int)) (1 + S 2 y) (S 1 (S 2 y) + sew K y (S 2 y))))) := by
        have e5 := mn5 (M := M) (f := fset (M (r : Int)) (1 + S 2 y) (S 1 (S 2 y) + sew K y (S 2 y))) hr
        have c1 := s141 (nat := nat) (d := d) (w := w) (M := rset M r (fset (M (r : Int)) (1 + S 2 y) (S 1 (S 2 y) + sew K y (S 2 y)))) hx (by rw [e5]; exact hL) hK (g := S 2 y) (i := 4) ⟨g1, g2⟩ (by omega)
        have hq2 := rdMr (w := w) (x := x) (M := rset M r (fset (M (r : Int)) (1 + S 2 y) (S 1 (S 2 y) + sew K y (S 2 y)))) hr
        rw [rset_at] at hq2
        rw [en142]
        simp (disch := first | omega | exact Nat.le_of_ble_eq_true rfl) only [e142_0, e142_1, e142_2, e142_3, e142_4, e142_5, e142_6, e142_7, e142_8, e142_11, e142_14, e142_15, e142_18, e142_19, J_add, J_sub, J_mul, J_neg, J_lt, J_le, J_eq, gArr_J, gAst_J, gSiz_J, gFld_o, gUpd_o0, gUpd_o1, gUpd_o2, gUpd_o3, gUpd_o4, gUpd_o5, gUpd_o6, gUpd_o7, gUpd_o8, gUpd_o9, gUpd_o10, gUpd_o11, gUpd_o12, gUpd_o13, gUpd_o14, gUpd_o15, gUpd_o16, gUpd_o17, gUpd_o18, gIsO_o, Option.bind_some, List.getElem?_cons_zero, List.getElem?_cons_succ, List.length_cons, List.length_nil, List.set_cons_zero, List.set_cons_succ, gCat_nil, gCat_int, gCat_ref, if_pos, if_neg, Option.toList_some, Option.toList_none, List.cons_append, List.nil_append, B_nar, J1_nar, J0_nar, if_true, if_false, rd_wr_same, rd_wr_ne, true_and, and_true, B_0, B_1, not_true_eq_false, not_false_eq_true, rdM0, rdM1, rdM2, rdM3, rdM4, rdM5, rdM6, rdM7, rdM8, rdM9, rdM10, rdM11, rdM12, wM1, wM2, wM3, wM4, wM5, wM6, wM7, wM8, wM9, wM10, wM11, wM12, wM0_0, wM0_1, wM0_2, wM0_3, wM0_4, wM0_5, wM0_6, hq2, c1, fset_at]
      have e5 := mn5 (M := M) (f := fset (M (r : Int)) (1 + S 2 y) (S 1 (S 2 y) + sew K y (S 2 y))) hr
      have e2' : (rset M r (fset (M (r : Int)) (1 + S 2 y) (S 1 (S 2 y) + sew K y (S 2 y)))) 5 2 = K 0 2 := by rw [e5]; exact f2
      rw [en147]
      simp (disch := first | omega | exact Nat.le_of_ble_eq_true rfl) only [e147_0, e147_1, e147_3, e147_4, e147_5, e147_6, e147_7, e147_8, e147_9, e147_10, e147_13, e147_15, e147_16, e147_19, e147_21, e147_22, e147_23, e147_24, e147_25, e147_26, e147_27, e147_28, e147_30, e147_32, e147_33, e147_35, e147_36, e147_37, e147_38, e147_39, e147_41, e147_43, e147_46, e147_47, e147_49, e147_50, e147_51, e147_52, e147_53, e147_55, e147_57, e147_60, e147_62, e147_65, e147_67, e147_69, e147_70, e147_73, e147_75, e147_76, e147_79, e147_81, e147_82, e147_83, e147_84, e147_85, e147_86, e147_87, e147_88, e147_89, e147_90, e147_91, e147_92, e147_95, e147_96, e147_98, e147_99, e147_100, e147_101, e147_102, e147_104, e147_105, e147_106, e147_107, e147_110, e147_113, e147_114, e147_115, e147_116, e147_119, e147_122, e147_124, e147_125, e147_126, e147_130, e147_131, e147_134, e147_135, e147_136, e147_139, e147_140, e147_141, e147_142, e147_145, e147_148, e147_149, e147_151, e147_153, e147_154, e147_155, e147_157, e147_159, e147_160, e147_161, e147_162, e147_165, e147_167, e147_170, e147_171, e147_173, e147_175, e147_176, e147_177, e147_178, e147_181, e147_184, J_add, J_sub, J_mul, J_neg, J_lt, J_le, J_eq, gArr_J, gAst_J, gSiz_J, gFld_o, gUpd_o0, gUpd_o1, gUpd_o2, gUpd_o3, gUpd_o4, gUpd_o5, gUpd_o6, gUpd_o7, gUpd_o8, gUpd_o9, gUpd_o10, gUpd_o11, gUpd_o12, gUpd_o13, gUpd_o14, gUpd_o15, gUpd_o16, gUpd_o17, gUpd_o18, gIsO_o, Option.bind_some, List.getElem?_cons_zero, List.getElem?_cons_succ, List.length_cons, List.length_nil, List.set_cons_zero, List.set_cons_succ, gCat_nil, gCat_int, gCat_ref, if_pos, if_neg, Option.toList_some, Option.toList_none, List.cons_append, List.nil_append, B_nar, J1_nar, J0_nar, if_true, if_false, rd_wr_same, rd_wr_ne, true_and, and_true, B_0, B_1, not_true_eq_false, not_false_eq_true, rdM0, rdM1, rdM2, rdM3, rdM4, rdM5, rdM6, rdM7, rdM8, rdM9, rdM10, rdM11, rdM12, wM1, wM2, wM3, wM4, wM5, wM6, wM7, wM8, wM9, wM10, wM11, wM12, wM0_0, wM0_1, wM0_2, wM0_3, wM0_4, wM0_5, wM0_6, hq, hw, p1, p2, p3, p4, c3, c4, c5, h0]
      rw [e147_128]
      simp (disch := first | omega | exact Nat.le_of_ble_eq_true rfl) only [e147_0, e147_1, e147_3, e147_4, e147_5, e147_6, e147_7, e147_8, e147_9, e147_10, e147_13, e147_15, e147_16, e147_19, e147_21, e147_22, e147_23, e147_24, e147_25, e147_26, e147_27, e147_28, e147_30, e147_32, e147_33, e147_35, e147_36, e147_37, e147_38, e147_39, e147_41, e147_43, e147_46, e147_47, e147_49, e147_50, e147_51, e147_52, e147_53, e147_55, e147_57, e147_60, e147_62, e147_65, e147_67, e147_69, e147_70, e147_73, e147_75, e147_76, e147_79, e147_81, e147_82, e147_83, e147_84, e147_85, e147_86, e147_87, e147_88, e147_89, e147_90, e147_91, e147_92, e147_95, e147_96, e147_98, e147_99, e147_100, e147_101, e147_102, e147_104, e147_105, e147_106, e147_107, e147_110, e147_113, e147_114, e147_115, e147_116, e147_119, e147_122, e147_124, e147_125, e147_126, e147_130, e147_131, e147_134, e147_135, e147_136, e147_139, e147_140, e147_141, e147_142, e147_145, e147_148, e147_149, e147_151, e147_153, e147_154, e147_155, e147_157, e147_159, e147_160, e147_161, e147_162, e147_165, e147_167, e147_170, e147_171, e147_173, e147_175, e147_176, e147_177, e147_178, e147_181, e147_184, J_add, J_sub, J_mul, J_neg, J_lt, J_le, J_eq, gArr_J, gAst_J, gSiz_J, gFld_o, gUpd_o0, gUpd_o1, gUpd_o2, gUpd_o3, gUpd_o4, gUpd_o5, gUpd_o6, gUpd_o7, gUpd_o8, gUpd_o9, gUpd_o10, gUpd_o11, gUpd_o12, gUpd_o13, gUpd_o14, gUpd_o15, gUpd_o16, gUpd_o17, gUpd_o18, gIsO_o, Option.bind_some, List.getElem?_cons_zero, List.getElem?_cons_succ, List.length_cons, List.length_nil, List.set_cons_zero, List.set_cons_succ, gCat_nil, gCat_int, gCat_ref, if_pos, if_neg, Option.toList_some, Option.toList_none, List.cons_append, List.nil_append, B_nar, J1_nar, J0_nar, if_true, if_false, rd_wr_same, rd_wr_ne, true_and, and_true, B_0, B_1, not_true_eq_false, not_false_eq_true, rdM0, rdM1, rdM2, rdM3, rdM4, rdM5, rdM6, rdM7, rdM8, rdM9, rdM10, rdM11, rdM12, wM1, wM2, wM3, wM4, wM5, wM6, wM7, wM8, wM9, wM10, wM11, wM12, wM0_0, wM0_1, wM0_2, wM0_3, wM0_4, wM0_5, wM0_6, e2', c6]
    · rw [if_neg h2]
      refine ⟨coffF (fset (M (r : Int)) (1 + S 2 y) (K 1 (5 * S 2 y + 4))) (S 2 y) (K 0 2).toNat, ?_, mRow_coff (mRow_did hR hK ⟨g1, g2⟩) hK (by omega)⟩
      have c6 := fun z2 z4 z5 z6 z7 => l147 (nat := nat) (d := d) (w := w) (M := M) hx hL hK hr (f := fset (M (r : Int)) (1 + S 2 y) (K 1 (5 * S 2 y + 4))) (g := S 2 y) ⟨g1, g2⟩ fset_at (fun z z1 z2 => by
        rw [fset_ne (by omega), (hR.2.2 z z1 z2).2]
        have := hS.2.2.1 z z1 (by omega)
        omega) (z2 := z2) (z4 := z4) (z5 := z5) (z6 := z6) (z7 := z7) (N := (K 0 2).toNat) (by omega) (K 0 2).toNat 0 (by omega)
      rw [coffF_z, show ((0 : Nat) : Int) = 0 from rfl] at c6
      rw [en147]
      by_cases h5 : S 1 (S 2 y) + sew K y (S 2 y) = K 1 (5 * S 2 y + 4)
      · rw [← h5] at c6 ⊢
        rw [← h5] at c4
        simp (disch := first | omega | exact Nat.le_of_ble_eq_true rfl) only [e147_0, e147_1, e147_3, e147_4, e147_5, e147_6, e147_7, e147_8, e147_9, e147_10, e147_13, e147_15, e147_16, e147_19, e147_21, e147_22, e147_23, e147_24, e147_25, e147_26, e147_27, e147_28, e147_30, e147_32, e147_33, e147_35, e147_36, e147_37, e147_38, e147_39, e147_41, e147_43, e147_46, e147_47, e147_49, e147_50, e147_51, e147_52, e147_53, e147_55, e147_57, e147_60, e147_62, e147_65, e147_67, e147_69, e147_70, e147_73, e147_75, e147_76, e147_79, e147_81, e147_82, e147_83, e147_84, e147_85, e147_86, e147_87, e147_88, e147_89, e147_90, e147_91, e147_92, e147_95, e147_96, e147_98, e147_99, e147_100, e147_101, e147_102, e147_104, e147_105, e147_106, e147_107, e147_110, e147_113, e147_114, e147_115, e147_116, e147_119, e147_122, e147_124, e147_125, e147_126, e147_130, e147_131, e147_134, e147_135, e147_136, e147_139, e147_140, e147_141, e147_142, e147_145, e147_148, e147_149, e147_151, e147_153, e147_154, e147_155, e147_157, e147_159, e147_160, e147_161, e147_162, e147_165, e147_167, e147_170, e147_171, e147_173, e147_175, e147_176, e147_177, e147_178, e147_181, e147_184, J_add, J_sub, J_mul, J_neg, J_lt, J_le, J_eq, gArr_J, gAst_J, gSiz_J, gFld_o, gUpd_o0, gUpd_o1, gUpd_o2, gUpd_o3, gUpd_o4, gUpd_o5, gUpd_o6, gUpd_o7, gUpd_o8, gUpd_o9, gUpd_o10, gUpd_o11, gUpd_o12, gUpd_o13, gUpd_o14, gUpd_o15, gUpd_o16, gUpd_o17, gUpd_o18, gIsO_o, Option.bind_some, List.getElem?_cons_zero, List.getElem?_cons_succ, List.length_cons, List.length_nil, List.set_cons_zero, List.set_cons_succ, gCat_nil, gCat_int, gCat_ref, if_pos, if_neg, Option.toList_some, Option.toList_none, List.cons_append, List.nil_append, B_nar, J1_nar, J0_nar, if_true, if_false, rd_wr_same, rd_wr_ne, true_and, and_true, B_0, B_1, not_true_eq_false, not_false_eq_true, rdM0, rdM1, rdM2, rdM3, rdM4, rdM5, rdM6, rdM7, rdM8, rdM9, rdM10, rdM11, rdM12, wM1, wM2, wM3, wM4, wM5, wM6, wM7, wM8, wM9, wM10, wM11, wM12, wM0_0, wM0_1, wM0_2, wM0_3, wM0_4, wM0_5, wM0_6, hq, hw, p1, p2, p3, p4, c3, c4, c5, h0]
        exact c6 _ _ _ _ _
      ·
        simp (disch := first | omega | exact Nat.le_of_ble_eq_true rfl) only [e147_0, e147_1, e147_3, e147_4, e147_5, e147_6, e147_7, e147_8, e147_9, e147_10, e147_13, e147_15, e147_16, e147_19, e147_21, e147_22, e147_23, e147_24, e147_25, e147_26, e147_27, e147_28, e147_30, e147_32, e147_33, e147_35, e147_36, e147_37, e147_38, e147_39, e147_41, e147_43, e147_46, e147_47, e147_49, e147_50, e147_51, e147_52, e147_53, e147_55, e147_57, e147_60, e147_62, e147_65, e147_67, e147_69, e147_70, e147_73, e147_75, e147_76, e147_79, e147_81, e147_82, e147_83, e147_84, e147_85, e147_86, e147_87, e147_88, e147_89, e147_90, e147_91, e147_92, e147_95, e147_96, e147_98, e147_99, e147_100, e147_101, e147_102, e147_104, e147_105, e147_106, e147_107, e147_110, e147_113, e147_114, e147_115, e147_116, e147_119, e147_122, e147_124, e147_125, e147_126, e147_130, e147_131, e147_134, e147_135, e147_136, e147_139, e147_140, e147_141, e147_142, e147_145, e147_148, e147_149, e147_151, e147_153, e147_154, e147_155, e147_157, e147_159, e147_160, e147_161, e147_162, e147_165, e147_167, e147_170, e147_171, e147_173, e147_175, e147_176, e147_177, e147_178, e147_181, e147_184, J_add, J_sub, J_mul, J_neg, J_lt, J_le, J_eq, gArr_J, gAst_J, gSiz_J, gFld_o, gUpd_o0, gUpd_o1, gUpd_o2, gUpd_o3, gUpd_o4, gUpd_o5, gUpd_o6, gUpd_o7, gUpd_o8, gUpd_o9, gUpd_o10, gUpd_o11, gUpd_o12, gUpd_o13, gUpd_o14, gUpd_o15, gUpd_o16, gUpd_o17, gUpd_o18, gIsO_o, Option.bind_some, List.getElem?_cons_zero, List.getElem?_cons_succ, List.length_cons, List.length_nil, List.set_cons_zero, List.set_cons_succ, gCat_nil, gCat_int, gCat_ref, if_pos, if_neg, Option.toList_some, Option.toList_none, List.cons_append, List.nil_append, B_nar, J1_nar, J0_nar, if_true, if_false, rd_wr_same, rd_wr_ne, true_and, and_true, B_0, B_1, not_true_eq_false, not_false_eq_true, rdM0, rdM1, rdM2, rdM3, rdM4, rdM5, rdM6, rdM7, rdM8, rdM9, rdM10, rdM11, rdM12, wM1, wM2, wM3, wM4, wM5, wM6, wM7, wM8, wM9, wM10, wM11, wM12, wM0_0, wM0_1, wM0_2, wM0_3, wM0_4, wM0_5, wM0_6, hq, hw, p1, p2, p3, p4, c3, c4, c5, h0]
        exact c6 _ _ _ _ _
