def rst (M : Lay) (p b : Int) (N L P : Int → Int) : Lay := fun a => if a = 0 then f7 (M 0 0) p b (M 0 3) (M 0 4) (M 0 5) (M 0 6) else if a = 2 then N else if a = 3 then L else if a = 4 then P else M a
theorem rst00 {M : Lay} {p b : Int} {N L P : Int → Int} : rst M p b N L P 0 0 = M 0 0 := rfl
theorem rst01 {M : Lay} {p b : Int} {N L P : Int → Int} : rst M p b N L P 0 1 = p := rfl
theorem rst02 {M : Lay} {p b : Int} {N L P : Int → Int} : rst M p b N L P 0 2 = b := rfl
theorem rst03 {M : Lay} {p b : Int} {N L P : Int → Int} : rst M p b N L P 0 3 = M 0 3 := rfl
theorem rst04 {M : Lay} {p b : Int} {N L P : Int → Int} : rst M p b N L P 0 4 = M 0 4 := rfl
theorem rst05 {M : Lay} {p b : Int} {N L P : Int → Int} : rst M p b N L P 0 5 = M 0 5 := rfl
theorem rst06 {M : Lay} {p b : Int} {N L P : Int → Int} : rst M p b N L P 0 6 = M 0 6 := rfl
theorem rst_1 {M : Lay} {p b : Int} {N L P : Int → Int} : rst M p b N L P 1 = M 1 := rfl
theorem rst_2 {M : Lay} {p b : Int} {N L P : Int → Int} : rst M p b N L P 2 = N := rfl
theorem rst_3 {M : Lay} {p b : Int} {N L P : Int → Int} : rst M p b N L P 3 = L := rfl
theorem rst_4 {M : Lay} {p b : Int} {N L P : Int → Int} : rst M p b N L P 4 = P := rfl
theorem rst_w0 {M : Lay} {p b q e : Int} {N L P : Int → Int} : rset (rst M p b N L P) 0 (f7 (M 0 0) q e (M 0 3) (M 0 4) (M 0 5) (M 0 6)) = rst M q e N L P := by
  funext a
  unfold rset rst
  by_cases h : a = 0
  · rw [if_pos h, if_pos h]
  · rw [if_neg h, if_neg h, if_neg h]
theorem rst_w2 {M : Lay} {p b : Int} {N L P g : Int → Int} : rset (rst M p b N L P) 2 g = rst M p b g L P := by
  funext a
  unfold rset rst
  by_cases h : a = 2
  · subst h
    rfl
  · rw [if_neg h]
    by_cases h0 : a = 0
    · rw [if_pos h0, if_pos h0]
    · rw [if_neg h0, if_neg h0, if_neg h, if_neg h]
theorem rst_w3 {M : Lay} {p b : Int} {N L P g : Int → Int} : rset (rst M p b N L P) 3 g = rst M p b N g P := by
  funext a
  unfold rset rst
  by_cases h : a = 3
  · subst h
    rfl
  · rw [if_neg h]
    by_cases h0 : a = 0
    · rw [if_pos h0, if_pos h0]
    · rw [if_neg h0, if_neg h0, if_neg h, if_neg h]
theorem rst_w4 {M : Lay} {p b : Int} {N L P g : Int → Int} : rset (rst M p b N L P) 4 g = rst M p b N L g := by
  funext a
  unfold rset rst
  by_cases h : a = 4
  · subst h
    rfl
  · rw [if_neg h]
    by_cases h0 : a = 0
    · rw [if_pos h0, if_pos h0]
    · rw [if_neg h0, if_neg h0, if_neg h, if_neg h]
/-- so many numbers, as the model reads them -/
def rn (t : Int → Int) (many : Int) : Nat → Int → Int → (Int → Int) → Bool × Int × (Int → Int)
  | 0, _, p, N => (true, p, N)
  | k + 1, i, p, N => if fig (t p) then (if t (nEnd t p) = (if i = many - 1 then 59 else 44) then rn t many k (i + 1) (nEnd t p + 1) (fset N i (nVal t p)) else (false, nEnd t p, fset N i (nVal t p))) else (false, p, N)
theorem rn_nums (t : Int → Int) (many : Int) : ∀ (k e : Nat) (i p : Int) (N1 N2 : Int → Int), i + (k + 1 : Nat) = many → (∀ y, 0 ≤ y → y < i → N1 y = N2 y) →
    (∀ q R1, rn t many (k + 1) i p N1 = (true, q, R1) → ∃ R2, nums t (k + 1 + e) i p N2 = some (many, q, R2) ∧ ∀ y, 0 ≤ y → y < many → R1 y = R2 y) ∧
    ((rn t many (k + 1) i p N1).1 = false → ∀ q R, nums t (k + 1 + e) i p N2 ≠ some (many, q, R)) := by
  intro k
  induction k with
  | zero =>
    intro e i p N1 N2 hi hN
    have e1 : 0 + 1 + e = e + 1 := by omega
    have him : i = many - 1 := by omega
    rw [e1, rn, nums, if_pos him]
    by_cases hf : fig (t p)
    · rw [if_pos hf, if_pos hf]
      by_cases h59 : t (nEnd t p) = 59
      · rw [if_pos h59, if_pos h59, rn]
        refine ⟨fun q R1 h => ?_, fun h => absurd h (by simp)⟩
        obtain ⟨-, h2, h3⟩ := Prod.mk.inj h |>.imp id (fun z => Prod.mk.inj z)
        refine ⟨fset N2 i (nVal t p), by rw [← h2, show i + 1 = many from by omega], fun y y1 y2 => ?_⟩
        rw [← h3]
        by_cases z : y = i
        · rw [z, fset_at, fset_at]
        · rw [fset_ne z, fset_ne z]
          exact hN y y1 (by omega)
      · rw [if_neg h59, if_neg h59]
        refine ⟨fun q R1 h => absurd (Prod.mk.inj h).1 (by decide), fun _ q R h => ?_⟩
        split at h
        · obtain ⟨n1, n2, n3, n4, n5, n6⟩ := nums_in _ _ _ _ _ _ _ _ h
          omega
        · exact absurd h (by simp)
    · rw [if_neg hf, if_neg hf]
      exact ⟨fun q R1 h => absurd (Prod.mk.inj h).1 (by decide), fun _ q R h => absurd h (by simp)⟩
  | succ k ih =>
    intro e i p N1 N2 hi hN
    have e1 : k + 1 + 1 + e = (k + 1 + e) + 1 := by omega
    rw [e1, rn, nums, if_neg (show ¬ i = many - 1 from by omega)]
    by_cases hf : fig (t p)
    · rw [if_pos hf, if_pos hf]
      by_cases h59 : t (nEnd t p) = 59
      · rw [if_pos h59, if_neg (by omega)]
        refine ⟨fun q R1 h => absurd (Prod.mk.inj h).1 (by decide), fun _ q R h => ?_⟩
        have h1 := congrArg Prod.fst (Option.some.inj h)
        have h2 : i + 1 = many := h1
        omega
      · rw [if_neg h59]
        by_cases h44 : t (nEnd t p) = 44
        · rw [if_pos h44, if_pos h44]
          refine ih e (i + 1) (nEnd t p + 1) _ _ (by omega) (fun y y1 y2 => ?_)
          by_cases z : y = i
          · rw [z, fset_at, fset_at]
          · rw [fset_ne z, fset_ne z]
            exact hN y y1 (by omega)
        · rw [if_neg h44, if_neg h44]
          exact ⟨fun q R1 h => absurd (Prod.mk.inj h).1 (by decide), fun _ q R h => absurd h (by simp)⟩
    · rw [if_neg hf, if_neg hf]
      exact ⟨fun q R1 h => absurd (Prod.mk.inj h).1 (by decide), fun _ q R h => absurd h (by simp)⟩
theorem s127 {nat : gNat} {d : Nat} {w : gWd} {x : Nat} {M : Lay} (hx : x + 12 < gSTR) (h0 : 0 ≤ M 0 0 ∧ M 0 0 ≤ 200) {i : Int} (hi : 0 ≤ i ∧ i < 2000000000) : gC nat (d + 1) 127 [.ref x, .int (J i)] (putM w x M) = some (some (.int (J (ltr (M 1) (M 0 0) i))), (putM w x M)) := by
  rw [en127]
  unfold ltr
  by_cases h : i < M 0 0
  · rw [if_pos h]
    simp (disch := first | omega | exact Nat.le_of_ble_eq_true rfl) only [e127_0, e127_1, e127_2, e127_5, e127_8, e127_9, e127_12, e127_13, e127_14, e127_17, e127_18, J_add, J_sub, J_mul, J_neg, J_lt, J_le, J_eq, gArr_J, gAst_J, gSiz_J, gFld_o, gUpd_o0, gUpd_o1, gUpd_o2, gUpd_o3, gUpd_o4, gUpd_o5, gUpd_o6, gUpd_o7, gUpd_o8, gUpd_o9, gUpd_o10, gUpd_o11, gUpd_o12, gUpd_o13, gUpd_o14, gUpd_o15, gUpd_o16, gUpd_o17, gUpd_o18, gIsO_o, Option.bind_some, List.getElem?_cons_zero, List.getElem?_cons_succ, List.length_cons, List.length_nil, List.set_cons_zero, List.set_cons_succ, gCat_nil, gCat_int, gCat_ref, if_pos, if_neg, Option.toList_some, Option.toList_none, List.cons_append, List.nil_append, B_nar, J1_nar, J0_nar, if_true, if_false, rd_wr_same, rd_wr_ne, true_and, and_true, B_0, B_1, not_true_eq_false, not_false_eq_true, rdM0, rdM1, rdM2, rdM3, rdM4, rdM5, rdM6, rdM7, rdM8, rdM9, rdM10, rdM11, rdM12, rset_at, rset_ne, rset_rset, w0M, wZ1, wZ2, wZ3, wZ4, wZ5, wZ6, wZ7, wZ8, wZ9, wZ10, wZ11, wZ12, f7_0, f7_1, f7_2, f7_3, f7_4, f7_5, f7_6]
  · rw [if_neg h]
    simp (disch := first | omega | exact Nat.le_of_ble_eq_true rfl) only [e127_0, e127_1, e127_2, e127_5, e127_8, e127_9, e127_12, e127_13, e127_14, e127_17, e127_18, J_add, J_sub, J_mul, J_neg, J_lt, J_le, J_eq, gArr_J, gAst_J, gSiz_J, gFld_o, gUpd_o0, gUpd_o1, gUpd_o2, gUpd_o3, gUpd_o4, gUpd_o5, gUpd_o6, gUpd_o7, gUpd_o8, gUpd_o9, gUpd_o10, gUpd_o11, gUpd_o12, gUpd_o13, gUpd_o14, gUpd_o15, gUpd_o16, gUpd_o17, gUpd_o18, gIsO_o, Option.bind_some, List.getElem?_cons_zero, List.getElem?_cons_succ, List.length_cons, List.length_nil, List.set_cons_zero, List.set_cons_succ, gCat_nil, gCat_int, gCat_ref, if_pos, if_neg, Option.toList_some, Option.toList_none, List.cons_append, List.nil_append, B_nar, J1_nar, J0_nar, if_true, if_false, rd_wr_same, rd_wr_ne, true_and, and_true, B_0, B_1, not_true_eq_false, not_false_eq_true, rdM0, rdM1, rdM2, rdM3, rdM4, rdM5, rdM6, rdM7, rdM8, rdM9, rdM10, rdM11, rdM12, rset_at, rset_ne, rset_rset, w0M, wZ1, wZ2, wZ3, wZ4, wZ5, wZ6, wZ7, wZ8, wZ9, wZ10, wZ11, wZ12, f7_0, f7_1, f7_2, f7_3, f7_4, f7_5, f7_6]

theorem s128 {nat : gNat} {d : Nat} {w : gWd} {c : Int} (hc : -2147483648 ≤ c ∧ c < 2147483648) : gC nat (d + 2) 128 [.int (J c)] w = some (some (.int (B (48 ≤ c ∧ c ≤ 57))), w) := by
  have c1 := s122 (nat := nat) (d := d) (w := w) (v := c) (l := 48) (h := 57) (by omega) (by omega) (by omega)
  rw [en128]
  simp (disch := first | omega | exact Nat.le_of_ble_eq_true rfl) only [e128_0, e128_1, e128_3, e128_5, e128_8, J_add, J_sub, J_mul, J_neg, J_lt, J_le, J_eq, gArr_J, gAst_J, gSiz_J, gFld_o, gUpd_o0, gUpd_o1, gUpd_o2, gUpd_o3, gUpd_o4, gUpd_o5, gUpd_o6, gUpd_o7, gUpd_o8, gUpd_o9, gUpd_o10, gUpd_o11, gUpd_o12, gUpd_o13, gUpd_o14, gUpd_o15, gUpd_o16, gUpd_o17, gUpd_o18, gIsO_o, Option.bind_some, List.getElem?_cons_zero, List.getElem?_cons_succ, List.length_cons, List.length_nil, List.set_cons_zero, List.set_cons_succ, gCat_nil, gCat_int, gCat_ref, if_pos, if_neg, Option.toList_some, Option.toList_none, List.cons_append, List.nil_append, B_nar, J1_nar, J0_nar, if_true, if_false, rd_wr_same, rd_wr_ne, true_and, and_true, B_0, B_1, not_true_eq_false, not_false_eq_true, rdM0, rdM1, rdM2, rdM3, rdM4, rdM5, rdM6, rdM7, rdM8, rdM9, rdM10, rdM11, rdM12, rset_at, rset_ne, rset_rset, w0M, wZ1, wZ2, wZ3, wZ4, wZ5, wZ6, wZ7, wZ8, wZ9, wZ10, wZ11, wZ12, f7_0, f7_1, f7_2, f7_3, f7_4, f7_5, f7_6, c1]


theorem l129 {nat : gNat} {d : Nat} {w : gWd} {x : Nat} {M : Lay} (hx : x + 12 < gSTR) (h0 : 0 ≤ M 0 0 ∧ M 0 0 ≤ 200) {t : Int → Int} (ht : ∀ i, 0 ≤ i → ltr (M 1) (M 0 0) i = t i) (htb : ∀ i, 0 ≤ i → 0 ≤ t i ∧ t i < 128) {b : Int} {L P : Int → Int} {many : Int} (hm : 1 ≤ many ∧ many ≤ 5) : ∀ (k : Nat) (i p : Int) (N : Int → Int) (z : Option Value), i + k = many → 0 ≤ i → 0 ≤ p → p ≤ 201 → gX (gC nat (d + 2)) nat 129 2 [some (.ref x), some (.int (J many)), some (.int (J i)), z] [] [] (putM w x (rst M p b N L P)) = some (some (.int (J (if (rn t many k i p N).1 = true then 1 else 0))), putM w x (rst M (rn t many k i p N).2.1 b (rn t many k i p N).2.2 L P)) := by
  have c1 : ∀ (i p : Int) (N : Int → Int), 0 ≤ i → i < 1000 → gC nat (d + 2) 127 [.ref x, .int (J i)] (putM w x (rst M p b N L P)) = some (some (.int (J (t i))), putM w x (rst M p b N L P)) := fun i p N i0 i1 => by
    rw [← ht i i0]
    exact s127 (M := rst M p b N L P) hx h0 (by omega)
  have c2 : ∀ (i p : Int) (N : Int → Int), 0 ≤ i → gC nat (d + 2) 128 [.int (J (t i))] (putM w x (rst M p b N L P)) = some (some (.int (B (48 ≤ t i ∧ t i ≤ 57))), putM w x (rst M p b N L P)) := fun i p N i0 => by
    have := htb i i0
    exact s128 (by omega)
  have hz : ∀ i, 200 ≤ i → t i = 0 := fun i hi => by
    rw [← ht i (by omega), ltr_ge (by omega)]
  intro k
  induction k with
  | zero =>
    intro i p N z hi hi0 hp0 hp1
    rw [rn, e129_2]
    simp (disch := first | omega | exact Nat.le_of_ble_eq_true rfl) only [e129_0, e129_1, e129_3, e129_4, e129_7, e129_8, e129_9, e129_12, e129_15, e129_18, e129_21, e129_22, e129_23, e129_24, e129_25, e129_28, e129_31, e129_33, e129_34, e129_35, e129_36, e129_36i, e129_37, e129_40, e129_41, e129_42, e129_45, e129_46, e129_47, e129_50, e129_53, e129_56, e129_59, e129_61, e129_62, e129_63, e129_64, e129_65, e129_68, e129_71, e129_72, e129_74, e129_75, e129_76, e129_77, e129_77i, e129_78, e129_81, e129_82, e129_83, e129_86, e129_87, e129_90, e129_91, e129_92, e129_93, e129_94, e129_95, e129_98, e129_101, e129_102, e129_103, e129_104, e129_105, e129_108, e129_110, e129_113, e129_115, e129_118, e129_119, e129_120, e129_121, e129_121i, e129_122, e129_125, e129_126, e129_127, e129_130, e129_133, e129_136, e129_137, J_add, J_sub, J_mul, J_neg, J_lt, J_le, J_eq, gArr_J, gAst_J, gSiz_J, gFld_o, gUpd_o0, gUpd_o1, gUpd_o2, gUpd_o3, gUpd_o4, gUpd_o5, gUpd_o6, gUpd_o7, gUpd_o8, gUpd_o9, gUpd_o10, gUpd_o11, gUpd_o12, gUpd_o13, gUpd_o14, gUpd_o15, gUpd_o16, gUpd_o17, gUpd_o18, gIsO_o, Option.bind_some, List.getElem?_cons_zero, List.getElem?_cons_succ, List.length_cons, List.length_nil, List.set_cons_zero, List.set_cons_succ, gCat_nil, gCat_int, gCat_ref, if_pos, if_neg, Option.toList_some, Option.toList_none, List.cons_append, List.nil_append, B_nar, J1_nar, J0_nar, if_true, if_false, rd_wr_same, rd_wr_ne, true_and, and_true, B_0, B_1, not_true_eq_false, not_false_eq_true, rdM0, rdM1, rdM2, rdM3, rdM4, rdM5, rdM6, rdM7, rdM8, rdM9, rdM10, rdM11, rdM12, rset_at, rset_ne, rset_rset, w0M, wZ1, wZ2, wZ3, wZ4, wZ5, wZ6, wZ7, wZ8, wZ9, wZ10, wZ11, wZ12, f7_0, f7_1, f7_2, f7_3, f7_4, f7_5, f7_6, rst00, rst01, rst02, rst03, rst04, rst05, rst06, rst_1, rst_2, rst_3, rst_4, rst_w0, rst_w2, rst_w3, rst_w4]
  | succ k ih =>
    intro i p N z hi hi0 hp0 hp1
    have b0 := htb p hp0
    have b1 := htb (p + 1) (by omega)
    have b2 := htb (p + 2) (by omega)
    have a1 := c1 p p N hp0 (by omega)
    have a2 := c2 p p N hp0
    rw [rn, e129_2]
    by_cases hf : 48 ≤ t p ∧ t p ≤ 57
    · rw [B_pos hf] at a2
      rw [if_pos (show fig (t p) from hf)]
      have hp2 : p < 200 := by
        rcases Int.lt_or_le p 200 with h | h
        · exact h
        · have := hz p h
          omega
      have a3 := c1 (p + 1) (p + 1) N (by omega) (by omega)
      have a4 := c2 (p + 1) (p + 1) N (by omega)
      by_cases hf2 : 48 ≤ t (p + 1) ∧ t (p + 1) ≤ 57
      · rw [B_pos hf2] at a4
        have eE : nEnd t p = p + 2 := by
          unfold nEnd
          rw [if_pos (show fig (t p) from hf), if_pos (show fig (t (p + 1)) from hf2)]
        have eV : 10 * (t p - 48) + t (p + 1) - 48 = nVal t p := by
          unfold nVal
          rw [if_pos (show fig (t p) from hf), if_pos (show fig (t (p + 1)) from hf2)]
          omega
        have eA : p + 1 + 1 = p + 2 := by omega
        have a5 := c1 (p + 2) (p + 2) (fset N i (nVal t p)) (by omega) (by omega)
        rw [eE]
        by_cases hk : i = many - 1
        · rw [if_pos hk]
          by_cases hs : t (p + 2) = 59
          · rw [if_pos hs]
            have this := ih (i + 1) (p + 2 + 1) (fset N i (nVal t p)) (some (.int (J (nVal t p)))) (by omega) (by omega) (by omega) (by
              rcases Int.lt_or_le (p + 2) 200 with h | h
              · omega
              · have := hz _ h
                omega)
            simp (disch := first | omega | exact Nat.le_of_ble_eq_true rfl) only [e129_0, e129_1, e129_3, e129_4, e129_7, e129_8, e129_9, e129_12, e129_15, e129_18, e129_21, e129_22, e129_23, e129_24, e129_25, e129_28, e129_31, e129_33, e129_34, e129_35, e129_36, e129_36i, e129_37, e129_40, e129_41, e129_42, e129_45, e129_46, e129_47, e129_50, e129_53, e129_56, e129_59, e129_61, e129_62, e129_63, e129_64, e129_65, e129_68, e129_71, e129_72, e129_74, e129_75, e129_76, e129_77, e129_77i, e129_78, e129_81, e129_82, e129_83, e129_86, e129_87, e129_90, e129_91, e129_92, e129_93, e129_94, e129_95, e129_98, e129_101, e129_102, e129_103, e129_104, e129_105, e129_108, e129_110, e129_113, e129_115, e129_118, e129_119, e129_120, e129_121, e129_121i, e129_122, e129_125, e129_126, e129_127, e129_130, e129_133, e129_136, e129_137, J_add, J_sub, J_mul, J_neg, J_lt, J_le, J_eq, gArr_J, gAst_J, gSiz_J, gFld_o, gUpd_o0, gUpd_o1, gUpd_o2, gUpd_o3, gUpd_o4, gUpd_o5, gUpd_o6, gUpd_o7, gUpd_o8, gUpd_o9, gUpd_o10, gUpd_o11, gUpd_o12, gUpd_o13, gUpd_o14, gUpd_o15, gUpd_o16, gUpd_o17, gUpd_o18, gIsO_o, Option.bind_some, List.getElem?_cons_zero, List.getElem?_cons_succ, List.length_cons, List.length_nil, List.set_cons_zero, List.set_cons_succ, gCat_nil, gCat_int, gCat_ref, if_pos, if_neg, Option.toList_some, Option.toList_none, List.cons_append, List.nil_append, B_nar, J1_nar, J0_nar, if_true, if_false, rd_wr_same, rd_wr_ne, true_and, and_true, B_0, B_1, not_true_eq_false, not_false_eq_true, rdM0, rdM1, rdM2, rdM3, rdM4, rdM5, rdM6, rdM7, rdM8, rdM9, rdM10, rdM11, rdM12, rset_at, rset_ne, rset_rset, w0M, wZ1, wZ2, wZ3, wZ4, wZ5, wZ6, wZ7, wZ8, wZ9, wZ10, wZ11, wZ12, f7_0, f7_1, f7_2, f7_3, f7_4, f7_5, f7_6, rst00, rst01, rst02, rst03, rst04, rst05, rst06, rst_1, rst_2, rst_3, rst_4, rst_w0, rst_w2, rst_w3, rst_w4, a1, a2, a3, a4, a5, eA, eV, this]
          · rw [if_neg hs]
            simp (disch := first | omega | exact Nat.le_of_ble_eq_true rfl) only [e129_0, e129_1, e129_3, e129_4, e129_7, e129_8, e129_9, e129_12, e129_15, e129_18, e129_21, e129_22, e129_23, e129_24, e129_25, e129_28, e129_31, e129_33, e129_34, e129_35, e129_36, e129_36i, e129_37, e129_40, e129_41, e129_42, e129_45, e129_46, e129_47, e129_50, e129_53, e129_56, e129_59, e129_61, e129_62, e129_63, e129_64, e129_65, e129_68, e129_71, e129_72, e129_74, e129_75, e129_76, e129_77, e129_77i, e129_78, e129_81, e129_82, e129_83, e129_86, e129_87, e129_90, e129_91, e129_92, e129_93, e129_94, e129_95, e129_98, e129_101, e129_102, e129_103, e129_104, e129_105, e129_108, e129_110, e129_113, e129_115, e129_118, e129_119, e129_120, e129_121, e129_121i, e129_122, e129_125, e129_126, e129_127, e129_130, e129_133, e129_136, e129_137, J_add, J_sub, J_mul, J_neg, J_lt, J_le, J_eq, gArr_J, gAst_J, gSiz_J, gFld_o, gUpd_o0, gUpd_o1, gUpd_o2, gUpd_o3, gUpd_o4, gUpd_o5, gUpd_o6, gUpd_o7, gUpd_o8, gUpd_o9, gUpd_o10, gUpd_o11, gUpd_o12, gUpd_o13, gUpd_o14, gUpd_o15, gUpd_o16, gUpd_o17, gUpd_o18, gIsO_o, Option.bind_some, List.getElem?_cons_zero, List.getElem?_cons_succ, List.length_cons, List.length_nil, List.set_cons_zero, List.set_cons_succ, gCat_nil, gCat_int, gCat_ref, if_pos, if_neg, Option.toList_some, Option.toList_none, List.cons_append, List.nil_append, B_nar, J1_nar, J0_nar, if_true, if_false, rd_wr_same, rd_wr_ne, true_and, and_true, B_0, B_1, not_true_eq_false, not_false_eq_true, rdM0, rdM1, rdM2, rdM3, rdM4, rdM5, rdM6, rdM7, rdM8, rdM9, rdM10, rdM11, rdM12, rset_at, rset_ne, rset_rset, w0M, wZ1, wZ2, wZ3, wZ4, wZ5, wZ6, wZ7, wZ8, wZ9, wZ10, wZ11, wZ12, f7_0, f7_1, f7_2, f7_3, f7_4, f7_5, f7_6, rst00, rst01, rst02, rst03, rst04, rst05, rst06, rst_1, rst_2, rst_3, rst_4, rst_w0, rst_w2, rst_w3, rst_w4, a1, a2, a3, a4, a5, eA, eV, Bool.false_eq_true]
        · rw [if_neg hk]
          by_cases hs : t (p + 2) = 44
          · rw [if_pos hs]
            have this := ih (i + 1) (p + 2 + 1) (fset N i (nVal t p)) (some (.int (J (nVal t p)))) (by omega) (by omega) (by omega) (by
              rcases Int.lt_or_le (p + 2) 200 with h | h
              · omega
              · have := hz _ h
                omega)
            simp (disch := first | omega | exact Nat.le_of_ble_eq_true rfl) only [e129_0, e129_1, e129_3, e129_4, e129_7, e129_8, e129_9, e129_12, e129_15, e129_18, e129_21, e129_22, e129_23, e129_24, e129_25, e129_28, e129_31, e129_33, e129_34, e129_35, e129_36, e129_36i, e129_37, e129_40, e129_41, e129_42, e129_45, e129_46, e129_47, e129_50, e129_53, e129_56, e129_59, e129_61, e129_62, e129_63, e129_64, e129_65, e129_68, e129_71, e129_72, e129_74, e129_75, e129_76, e129_77, e129_77i, e129_78, e129_81, e129_82, e129_83, e129_86, e129_87, e129_90, e129_91, e129_92, e129_93, e129_94, e129_95, e129_98, e129_101, e129_102, e129_103, e129_104, e129_105, e129_108, e129_110, e129_113, e129_115, e129_118, e129_119, e129_120, e129_121, e129_121i, e129_122, e129_125, e129_126, e129_127, e129_130, e129_133, e129_136, e129_137, J_add, J_sub, J_mul, J_neg, J_lt, J_le, J_eq, gArr_J, gAst_J, gSiz_J, gFld_o, gUpd_o0, gUpd_o1, gUpd_o2, gUpd_o3, gUpd_o4, gUpd_o5, gUpd_o6, gUpd_o7, gUpd_o8, gUpd_o9, gUpd_o10, gUpd_o11, gUpd_o12, gUpd_o13, gUpd_o14, gUpd_o15, gUpd_o16, gUpd_o17, gUpd_o18, gIsO_o, Option.bind_some, List.getElem?_cons_zero, List.getElem?_cons_succ, List.length_cons, List.length_nil, List.set_cons_zero, List.set_cons_succ, gCat_nil, gCat_int, gCat_ref, if_pos, if_neg, Option.toList_some, Option.toList_none, List.cons_append, List.nil_append, B_nar, J1_nar, J0_nar, if_true, if_false, rd_wr_same, rd_wr_ne, true_and, and_true, B_0, B_1, not_true_eq_false, not_false_eq_true, rdM0, rdM1, rdM2, rdM3, rdM4, rdM5, rdM6, rdM7, rdM8, rdM9, rdM10, rdM11, rdM12, rset_at, rset_ne, rset_rset, w0M, wZ1, wZ2, wZ3, wZ4, wZ5, wZ6, wZ7, wZ8, wZ9, wZ10, wZ11, wZ12, f7_0, f7_1, f7_2, f7_3, f7_4, f7_5, f7_6, rst00, rst01, rst02, rst03, rst04, rst05, rst06, rst_1, rst_2, rst_3, rst_4, rst_w0, rst_w2, rst_w3, rst_w4, a1, a2, a3, a4, a5, eA, eV, this]
          · rw [if_neg hs]
            simp (disch := first | omega | exact Nat.le_of_ble_eq_true rfl) only [e129_0, e129_1, e129_3, e129_4, e129_7, e129_8, e129_9, e129_12, e129_15, e129_18, e129_21, e129_22, e129_23, e129_24, e129_25, e129_28, e129_31, e129_33, e129_34, e129_35, e129_36, e129_36i, e129_37, e129_40, e129_41, e129_42, e129_45, e129_46, e129_47, e129_50, e129_53, e129_56, e129_59, e129_61, e129_62, e129_63, e129_64, e129_65, e129_68, e129_71, e129_72, e129_74, e129_75, e129_76, e129_77, e129_77i, e129_78, e129_81, e129_82, e129_83, e129_86, e129_87, e129_90, e129_91, e129_92, e129_93, e129_94, e129_95, e129_98, e129_101, e129_102, e129_103, e129_104, e129_105, e129_108, e129_110, e129_113, e129_115, e129_118, e129_119, e129_120, e129_121, e129_121i, e129_122, e129_125, e129_126, e129_127, e129_130, e129_133, e129_136, e129_137, J_add, J_sub, J_mul, J_neg, J_lt, J_le, J_eq, gArr_J, gAst_J, gSiz_J, gFld_o, gUpd_o0, gUpd_o1, gUpd_o2, gUpd_o3, gUpd_o4, gUpd_o5, gUpd_o6, gUpd_o7, gUpd_o8, gUpd_o9, gUpd_o10, gUpd_o11, gUpd_o12, gUpd_o13, gUpd_o14, gUpd_o15, gUpd_o16, gUpd_o17, gUpd_o18, gIsO_o, Option.bind_some, List.getElem?_cons_zero, List.getElem?_cons_succ, List.length_cons, List.length_nil, List.set_cons_zero, List.set_cons_succ, gCat_nil, gCat_int, gCat_ref, if_pos, if_neg, Option.toList_some, Option.toList_none, List.cons_append, List.nil_append, B_nar, J1_nar, J0_nar, if_true, if_false, rd_wr_same, rd_wr_ne, true_and, and_true, B_0, B_1, not_true_eq_false, not_false_eq_true, rdM0, rdM1, rdM2, rdM3, rdM4, rdM5, rdM6, rdM7, rdM8, rdM9, rdM10, rdM11, rdM12, rset_at, rset_ne, rset_rset, w0M, wZ1, wZ2, wZ3, wZ4, wZ5, wZ6, wZ7, wZ8, wZ9, wZ10, wZ11, wZ12, f7_0, f7_1, f7_2, f7_3, f7_4, f7_5, f7_6, rst00, rst01, rst02, rst03, rst04, rst05, rst06, rst_1, rst_2, rst_3, rst_4, rst_w0, rst_w2, rst_w3, rst_w4, a1, a2, a3, a4, a5, eA, eV, Bool.false_eq_true]
      · rw [B_neg hf2] at a4
        have eE : nEnd t p = p + 1 := by
          unfold nEnd
          rw [if_pos (show fig (t p) from hf), if_neg (show ¬ fig (t (p + 1)) from hf2)]
        have eV : t p - 48 = nVal t p := by
          unfold nVal
          rw [if_pos (show fig (t p) from hf), if_neg (show ¬ fig (t (p + 1)) from hf2)]
        have a5 := c1 (p + 1) (p + 1) (fset N i (nVal t p)) (by omega) (by omega)
        rw [eE]
        by_cases hk : i = many - 1
        · rw [if_pos hk]
          by_cases hs : t (p + 1) = 59
          · rw [if_pos hs]
            have this := ih (i + 1) (p + 1 + 1) (fset N i (nVal t p)) (some (.int (J (nVal t p)))) (by omega) (by omega) (by omega) (by omega)
            simp (disch := first | omega | exact Nat.le_of_ble_eq_true rfl) only [e129_0, e129_1, e129_3, e129_4, e129_7, e129_8, e129_9, e129_12, e129_15, e129_18, e129_21, e129_22, e129_23, e129_24, e129_25, e129_28, e129_31, e129_33, e129_34, e129_35, e129_36, e129_36i, e129_37, e129_40, e129_41, e129_42, e129_45, e129_46, e129_47, e129_50, e129_53, e129_56, e129_59, e129_61, e129_62, e129_63, e129_64, e129_65, e129_68, e129_71, e129_72, e129_74, e129_75, e129_76, e129_77, e129_77i, e129_78, e129_81, e129_82, e129_83, e129_86, e129_87, e129_90, e129_91, e129_92, e129_93, e129_94, e129_95, e129_98, e129_101, e129_102, e129_103, e129_104, e129_105, e129_108, e129_110, e129_113, e129_115, e129_118, e129_119, e129_120, e129_121, e129_121i, e129_122, e129_125, e129_126, e129_127, e129_130, e129_133, e129_136, e129_137, J_add, J_sub, J_mul, J_neg, J_lt, J_le, J_eq, gArr_J, gAst_J, gSiz_J, gFld_o, gUpd_o0, gUpd_o1, gUpd_o2, gUpd_o3, gUpd_o4, gUpd_o5, gUpd_o6, gUpd_o7, gUpd_o8, gUpd_o9, gUpd_o10, gUpd_o11, gUpd_o12, gUpd_o13, gUpd_o14, gUpd_o15, gUpd_o16, gUpd_o17, gUpd_o18, gIsO_o, Option.bind_some, List.getElem?_cons_zero, List.getElem?_cons_succ, List.length_cons, List.length_nil, List.set_cons_zero, List.set_cons_succ, gCat_nil, gCat_int, gCat_ref, if_pos, if_neg, Option.toList_some, Option.toList_none, List.cons_append, List.nil_append, B_nar, J1_nar, J0_nar, if_true, if_false, rd_wr_same, rd_wr_ne, true_and, and_true, B_0, B_1, not_true_eq_false, not_false_eq_true, rdM0, rdM1, rdM2, rdM3, rdM4, rdM5, rdM6, rdM7, rdM8, rdM9, rdM10, rdM11, rdM12, rset_at, rset_ne, rset_rset, w0M, wZ1, wZ2, wZ3, wZ4, wZ5, wZ6, wZ7, wZ8, wZ9, wZ10, wZ11, wZ12, f7_0, f7_1, f7_2, f7_3, f7_4, f7_5, f7_6, rst00, rst01, rst02, rst03, rst04, rst05, rst06, rst_1, rst_2, rst_3, rst_4, rst_w0, rst_w2, rst_w3, rst_w4, a1, a2, a3, a4, a5, eV, this]
          · rw [if_neg hs]
            simp (disch := first | omega | exact Nat.le_of_ble_eq_true rfl) only [e129_0, e129_1, e129_3, e129_4, e129_7, e129_8, e129_9, e129_12, e129_15, e129_18, e129_21, e129_22, e129_23, e129_24, e129_25, e129_28, e129_31, e129_33, e129_34, e129_35, e129_36, e129_36i, e129_37, e129_40, e129_41, e129_42, e129_45, e129_46, e129_47, e129_50, e129_53, e129_56, e129_59, e129_61, e129_62, e129_63, e129_64, e129_65, e129_68, e129_71, e129_72, e129_74, e129_75, e129_76, e129_77, e129_77i, e129_78, e129_81, e129_82, e129_83, e129_86, e129_87, e129_90, e129_91, e129_92, e129_93, e129_94, e129_95, e129_98, e129_101, e129_102, e129_103, e129_104, e129_105, e129_108, e129_110, e129_113, e129_115, e129_118, e129_119, e129_120, e129_121, e129_121i, e129_122, e129_125, e129_126, e129_127, e129_130, e129_133, e129_136, e129_137, J_add, J_sub, J_mul, J_neg, J_lt, J_le, J_eq, gArr_J, gAst_J, gSiz_J, gFld_o, gUpd_o0, gUpd_o1, gUpd_o2, gUpd_o3, gUpd_o4, gUpd_o5, gUpd_o6, gUpd_o7, gUpd_o8, gUpd_o9, gUpd_o10, gUpd_o11, gUpd_o12, gUpd_o13, gUpd_o14, gUpd_o15, gUpd_o16, gUpd_o17, gUpd_o18, gIsO_o, Option.bind_some, List.getElem?_cons_zero, List.getElem?_cons_succ, List.length_cons, List.length_nil, List.set_cons_zero, List.set_cons_succ, gCat_nil, gCat_int, gCat_ref, if_pos, if_neg, Option.toList_some, Option.toList_none, List.cons_append, List.nil_append, B_nar, J1_nar, J0_nar, if_true, if_false, rd_wr_same, rd_wr_ne, true_and, and_true, B_0, B_1, not_true_eq_false, not_false_eq_true, rdM0, rdM1, rdM2, rdM3, rdM4, rdM5, rdM6, rdM7, rdM8, rdM9, rdM10, rdM11, rdM12, rset_at, rset_ne, rset_rset, w0M, wZ1, wZ2, wZ3, wZ4, wZ5, wZ6, wZ7, wZ8, wZ9, wZ10, wZ11, wZ12, f7_0, f7_1, f7_2, f7_3, f7_4, f7_5, f7_6, rst00, rst01, rst02, rst03, rst04, rst05, rst06, rst_1, rst_2, rst_3, rst_4, rst_w0, rst_w2, rst_w3, rst_w4, a1, a2, a3, a4, a5, eV, Bool.false_eq_true]
        · rw [if_neg hk]
          by_cases hs : t (p + 1) = 44
          · rw [if_pos hs]
            have this := ih (i + 1) (p + 1 + 1) (fset N i (nVal t p)) (some (.int (J (nVal t p)))) (by omega) (by omega) (by omega) (by omega)
            simp (disch := first | omega | exact Nat.le_of_ble_eq_true rfl) only [e129_0, e129_1, e129_3, e129_4, e129_7, e129_8, e129_9, e129_12, e129_15, e129_18, e129_21, e129_22, e129_23, e129_24, e129_25, e129_28, e129_31, e129_33, e129_34, e129_35, e129_36, e129_36i, e129_37, e129_40, e129_41, e129_42, e129_45, e129_46, e129_47, e129_50, e129_53, e129_56, e129_59, e129_61, e129_62, e129_63, e129_64, e129_65, e129_68, e129_71, e129_72, e129_74, e129_75, e129_76, e129_77, e129_77i, e129_78, e129_81, e129_82, e129_83, e129_86, e129_87, e129_90, e129_91, e129_92, e129_93, e129_94, e129_95, e129_98, e129_101, e129_102, e129_103, e129_104, e129_105, e129_108, e129_110, e129_113, e129_115, e129_118, e129_119, e129_120, e129_121, e129_121i, e129_122, e129_125, e129_126, e129_127, e129_130, e129_133, e129_136, e129_137, J_add, J_sub, J_mul, J_neg, J_lt, J_le, J_eq, gArr_J, gAst_J, gSiz_J, gFld_o, gUpd_o0, gUpd_o1, gUpd_o2, gUpd_o3, gUpd_o4, gUpd_o5, gUpd_o6, gUpd_o7, gUpd_o8, gUpd_o9, gUpd_o10, gUpd_o11, gUpd_o12, gUpd_o13, gUpd_o14, gUpd_o15, gUpd_o16, gUpd_o17, gUpd_o18, gIsO_o, Option.bind_some, List.getElem?_cons_zero, List.getElem?_cons_succ, List.length_cons, List.length_nil, List.set_cons_zero, List.set_cons_succ, gCat_nil, gCat_int, gCat_ref, if_pos, if_neg, Option.toList_some, Option.toList_none, List.cons_append, List.nil_append, B_nar, J1_nar, J0_nar, if_true, if_false, rd_wr_same, rd_wr_ne, true_and, and_true, B_0, B_1, not_true_eq_false, not_false_eq_true, rdM0, rdM1, rdM2, rdM3, rdM4, rdM5, rdM6, rdM7, rdM8, rdM9, rdM10, rdM11, rdM12, rset_at, rset_ne, rset_rset, w0M, wZ1, wZ2, wZ3, wZ4, wZ5, wZ6, wZ7, wZ8, wZ9, wZ10, wZ11, wZ12, f7_0, f7_1, f7_2, f7_3, f7_4, f7_5, f7_6, rst00, rst01, rst02, rst03, rst04, rst05, rst06, rst_1, rst_2, rst_3, rst_4, rst_w0, rst_w2, rst_w3, rst_w4, a1, a2, a3, a4, a5, eV, this]
          · rw [if_neg hs]
            simp (disch := first | omega | exact Nat.le_of_ble_eq_true rfl) only [e129_0, e129_1, e129_3, e129_4, e129_7, e129_8, e129_9, e129_12, e129_15, e129_18, e129_21, e129_22, e129_23, e129_24, e129_25, e129_28, e129_31, e129_33, e129_34, e129_35, e129_36, e129_36i, e129_37, e129_40, e129_41, e129_42, e129_45, e129_46, e129_47, e129_50, e129_53, e129_56, e129_59, e129_61, e129_62, e129_63, e129_64, e129_65, e129_68, e129_71, e129_72, e129_74, e129_75, e129_76, e129_77, e129_77i, e129_78, e129_81, e129_82, e129_83, e129_86, e129_87, e129_90, e129_91, e129_92, e129_93, e129_94, e129_95, e129_98, e129_101, e129_102, e129_103, e129_104, e129_105, e129_108, e129_110, e129_113, e129_115, e129_118, e129_119, e129_120, e129_121, e129_121i, e129_122, e129_125, e129_126, e129_127, e129_130, e129_133, e129_136, e129_137, J_add, J_sub, J_mul, J_neg, J_lt, J_le, J_eq, gArr_J, gAst_J, gSiz_J, gFld_o, gUpd_o0, gUpd_o1, gUpd_o2, gUpd_o3, gUpd_o4, gUpd_o5, gUpd_o6, gUpd_o7, gUpd_o8, gUpd_o9, gUpd_o10, gUpd_o11, gUpd_o12, gUpd_o13, gUpd_o14, gUpd_o15, gUpd_o16, gUpd_o17, gUpd_o18, gIsO_o, Option.bind_some, List.getElem?_cons_zero, List.getElem?_cons_succ, List.length_cons, List.length_nil, List.set_cons_zero, List.set_cons_succ, gCat_nil, gCat_int, gCat_ref, if_pos, if_neg, Option.toList_some, Option.toList_none, List.cons_append, List.nil_append, B_nar, J1_nar, J0_nar, if_true, if_false, rd_wr_same, rd_wr_ne, true_and, and_true, B_0, B_1, not_true_eq_false, not_false_eq_true, rdM0, rdM1, rdM2, rdM3, rdM4, rdM5, rdM6, rdM7, rdM8, rdM9, rdM10, rdM11, rdM12, rset_at, rset_ne, rset_rset, w0M, wZ1, wZ2, wZ3, wZ4, wZ5, wZ6, wZ7, wZ8, wZ9, wZ10, wZ11, wZ12, f7_0, f7_1, f7_2, f7_3, f7_4, f7_5, f7_6, rst00, rst01, rst02, rst03, rst04, rst05, rst06, rst_1, rst_2, rst_3, rst_4, rst_w0, rst_w2, rst_w3, rst_w4, a1, a2, a3, a4, a5, eV, Bool.false_eq_true]
    · rw [B_neg hf] at a2
      rw [if_neg (show ¬ fig (t p) from hf)]
      simp (disch := first | omega | exact Nat.le_of_ble_eq_true rfl) only [e129_0, e129_1, e129_3, e129_4, e129_7, e129_8, e129_9, e129_12, e129_15, e129_18, e129_21, e129_22, e129_23, e129_24, e129_25, e129_28, e129_31, e129_33, e129_34, e129_35, e129_36, e129_36i, e129_37, e129_40, e129_41, e129_42, e129_45, e129_46, e129_47, e129_50, e129_53, e129_56, e129_59, e129_61, e129_62, e129_63, e129_64, e129_65, e129_68, e129_71, e129_72, e129_74, e129_75, e129_76, e129_77, e129_77i, e129_78, e129_81, e129_82, e129_83, e129_86, e129_87, e129_90, e129_91, e129_92, e129_93, e129_94, e129_95, e129_98, e129_101, e129_102, e129_103, e129_104, e129_105, e129_108, e129_110, e129_113, e129_115, e129_118, e129_119, e129_120, e129_121, e129_121i, e129_122, e129_125, e129_126, e129_127, e129_130, e129_133, e129_136, e129_137, J_add, J_sub, J_mul, J_neg, J_lt, J_le, J_eq, gArr_J, gAst_J, gSiz_J, gFld_o, gUpd_o0, gUpd_o1, gUpd_o2, gUpd_o3, gUpd_o4, gUpd_o5, gUpd_o6, gUpd_o7, gUpd_o8, gUpd_o9, gUpd_o10, gUpd_o11, gUpd_o12, gUpd_o13, gUpd_o14, gUpd_o15, gUpd_o16, gUpd_o17, gUpd_o18, gIsO_o, Option.bind_some, List.getElem?_cons_zero, List.getElem?_cons_succ, List.length_cons, List.length_nil, List.set_cons_zero, List.set_cons_succ, gCat_nil, gCat_int, gCat_ref, if_pos, if_neg, Option.toList_some, Option.toList_none, List.cons_append, List.nil_append, B_nar, J1_nar, J0_nar, if_true, if_false, rd_wr_same, rd_wr_ne, true_and, and_true, B_0, B_1, not_true_eq_false, not_false_eq_true, rdM0, rdM1, rdM2, rdM3, rdM4, rdM5, rdM6, rdM7, rdM8, rdM9, rdM10, rdM11, rdM12, rset_at, rset_ne, rset_rset, w0M, wZ1, wZ2, wZ3, wZ4, wZ5, wZ6, wZ7, wZ8, wZ9, wZ10, wZ11, wZ12, f7_0, f7_1, f7_2, f7_3, f7_4, f7_5, f7_6, rst00, rst01, rst02, rst03, rst04, rst05, rst06, rst_1, rst_2, rst_3, rst_4, rst_w0, rst_w2, rst_w3, rst_w4, a1, a2, Bool.false_eq_true]

theorem s129 {nat : gNat} {d : Nat} {w : gWd} {x : Nat} {M : Lay} (hx : x + 12 < gSTR) (h0 : 0 ≤ M 0 0 ∧ M 0 0 ≤ 200) {t : Int → Int} (ht : ∀ i, 0 ≤ i → ltr (M 1) (M 0 0) i = t i) (htb : ∀ i, 0 ≤ i → 0 ≤ t i ∧ t i < 128) {b p : Int} {N L P : Int → Int} {k : Nat} (hk : 1 ≤ k ∧ k ≤ 5) (hp : 0 ≤ p ∧ p ≤ 201) : gC nat (d + 3) 129 [.ref x, .int (J k)] (putM w x (rst M p b N L P)) = some (some (.int (J (if (rn t k k 0 p N).1 = true then 1 else 0))), putM w x (rst M (rn t k k 0 p N).2.1 b (rn t k k 0 p N).2.2 L P)) := by
  have h := l129 (nat := nat) (d := d) (w := w) (b := b) (L := L) (P := P) hx h0 ht htb (many := k) (by omega) k 0 p N none (by omega) (by omega) hp.1 hp.2
  rw [en129]
  simp (disch := first | omega | exact Nat.le_of_ble_eq_true rfl) only [e129_0, e129_1, e129_3, e129_4, e129_7, e129_8, e129_9, e129_12, e129_15, e129_18, e129_21, e129_22, e129_23, e129_24, e129_25, e129_28, e129_31, e129_33, e129_34, e129_35, e129_36, e129_36i, e129_37, e129_40, e129_41, e129_42, e129_45, e129_46, e129_47, e129_50, e129_53, e129_56, e129_59, e129_61, e129_62, e129_63, e129_64, e129_65, e129_68, e129_71, e129_72, e129_74, e129_75, e129_76, e129_77, e129_77i, e129_78, e129_81, e129_82, e129_83, e129_86, e129_87, e129_90, e129_91, e129_92, e129_93, e129_94, e129_95, e129_98, e129_101, e129_102, e129_103, e129_104, e129_105, e129_108, e129_110, e129_113, e129_115, e129_118, e129_119, e129_120, e129_121, e129_121i, e129_122, e129_125, e129_126, e129_127, e129_130, e129_133, e129_136, e129_137, J_add, J_sub, J_mul, J_neg, J_lt, J_le, J_eq, gArr_J, gAst_J, gSiz_J, gFld_o, gUpd_o0, gUpd_o1, gUpd_o2, gUpd_o3, gUpd_o4, gUpd_o5, gUpd_o6, gUpd_o7, gUpd_o8, gUpd_o9, gUpd_o10, gUpd_o11, gUpd_o12, gUpd_o13, gUpd_o14, gUpd_o15, gUpd_o16, gUpd_o17, gUpd_o18, gIsO_o, Option.bind_some, List.getElem?_cons_zero, List.getElem?_cons_succ, List.length_cons, List.length_nil, List.set_cons_zero, List.set_cons_succ, gCat_nil, gCat_int, gCat_ref, if_pos, if_neg, Option.toList_some, Option.toList_none, List.cons_append, List.nil_append, B_nar, J1_nar, J0_nar, if_true, if_false, rd_wr_same, rd_wr_ne, true_and, and_true, B_0, B_1, not_true_eq_false, not_false_eq_true, rdM0, rdM1, rdM2, rdM3, rdM4, rdM5, rdM6, rdM7, rdM8, rdM9, rdM10, rdM11, rdM12, rset_at, rset_ne, rset_rset, w0M, wZ1, wZ2, wZ3, wZ4, wZ5, wZ6, wZ7, wZ8, wZ9, wZ10, wZ11, wZ12, f7_0, f7_1, f7_2, f7_3, f7_4, f7_5, f7_6, h]

