theorem tki_congr {c a : Int} {N M : Int → Int} {K : Lay} {on : Int} (ha : 1 ≤ a) (h : ∀ y, 0 ≤ y → y < a → N y = M y) : tki c a N K on = tki c a M K on := by
  have e0 := h 0 (by omega) (by omega)
  unfold tki
  by_cases h5 : a = 5
  · simp only [addG, addD, e0, h 1 (by omega) (by omega), h 2 (by omega) (by omega), h 3 (by omega) (by omega), h 4 (by omega) (by omega)]
  by_cases h3 : a = 3
  · simp only [addD, e0, h5, h 1 (by omega) (by omega), h 2 (by omega) (by omega), false_and, if_false]
  · simp only [e0, h5, h3, false_and, if_false]
theorem addG_0 {K : Lay} {N : Int → Int} : (addG K N) 0 = fset (K 0) 1 (K 0 1 + 1) := by
  unfold addG
  rw [sset_fset, sset_o1, sset_o1, sset_o1, sset_o1, sset_o1]
theorem addG_1 {K : Lay} {N : Int → Int} {y : Int} : (addG K N) 1 y = if y = K 0 1 * 5 + 4 then N 4 else if y = K 0 1 * 5 + 3 then N 3 else if y = K 0 1 * 5 + 2 then N 2 else if y = K 0 1 * 5 + 1 then N 1 else if y = K 0 1 * 5 + 0 then N 0 else K 1 y := by
  unfold addG
  rw [sset_row (by decide), sset_fset, sset_fset, sset_fset, sset_fset, sset_fset]
  rfl
theorem addG_n {K : Lay} {N : Int → Int} {b : Int} (h : b ≠ 0 ∧ b ≠ 1) : (addG K N) b = K b := by
  unfold addG
  rw [sset_row h.1, sset_row h.2, sset_row h.2, sset_row h.2, sset_row h.2, sset_row h.2]
theorem addD_0 {K : Lay} {N : Int → Int} : (addD K N) 0 = fset (K 0) 2 (K 0 2 + 1) := by
  unfold addD
  rw [sset_fset, sset_o2, sset_o2, sset_o2]
theorem addD_2 {K : Lay} {N : Int → Int} {y : Int} : (addD K N) 2 y = if y = K 0 2 * 3 + 2 then N 2 else if y = K 0 2 * 3 + 1 then N 1 else if y = K 0 2 * 3 + 0 then N 0 else K 2 y := by
  unfold addD
  rw [sset_row (by decide), sset_fset, sset_fset, sset_fset]
  rfl
theorem addD_n {K : Lay} {N : Int → Int} {b : Int} (h : b ≠ 0 ∧ b ≠ 2) : (addD K N) b = K b := by
  unfold addD
  rw [sset_row h.1, sset_row h.2, sset_row h.2, sset_row h.2]
theorem addR_0 {K : Lay} {v : Int} : (addR K v) 0 = fset (K 0) 4 (K 0 4 + 1) := by
  unfold addR
  rw [sset_fset, sset_o3]
theorem addR_3 {K : Lay} {v : Int} : (addR K v) 3 = fset (K 3) (K 0 4) v := by
  unfold addR
  rw [sset_row (by decide), sset_fset]
theorem addR_n {K : Lay} {v : Int} {b : Int} (h : b ≠ 0 ∧ b ≠ 3) : (addR K v) b = K b := by
  unfold addR
  rw [sset_row h.1, sset_row h.2]
theorem vK_clr (K : Lay) : vK (clrK K) := by
  have e0 : ∀ x, (clrK K) 0 x = if x = 4 then 0 else if x = 3 then 12 else if x = 2 then 0 else if x = 1 then 0 else if x = 0 then 4 else K 0 x := fun x => by
    unfold clrK
    rw [sset_fset, sset_fset, sset_fset, sset_fset, sset_fset]
    rfl
  have q0 := e0 0
  have q1 := e0 1
  have q2 := e0 2
  have q3 := e0 3
  have q4 := e0 4
  simp at q0 q1 q2 q3 q4
  refine ⟨by omega, by omega, by omega, by omega, by omega, fun g h1 h2 => by omega, fun g h1 h2 => by omega, fun g h1 h2 => by omega⟩
theorem tki_v {c a : Int} {N : Int → Int} {K K' : Lay} {on : Int} (hK : vK K) (h1 : on = 1 → K 0 1 = 0) (hon : on = 0 ∨ on = 1) (h : tki c a N K on = some K') : vK K' ∧ ((if c = 112 then on else 0) = 1 → K' 0 1 = 0) := by
  obtain ⟨k0, k1, k2, k3, k4, kg, kd, kr⟩ := id hK
  unfold tki at h
  split at h
  · rename_i hc
    split at h
    · rename_i hq
      simp only [Option.some.injEq] at h
      subst h
      rw [if_pos hc]
      have e1 := h1 hq.1
      have q0 : (sset K 0 0 (N 0)) 0 0 = N 0 := sset_at
      have qn : ∀ y, y ≠ 0 → (sset K 0 0 (N 0)) 0 y = K 0 y := fun y hy => by rw [sset_fset, fset_ne hy]
      have qr : ∀ b, b ≠ 0 → (sset K 0 0 (N 0)) b = K b := fun b hb => sset_row hb
      refine ⟨⟨by omega, by rw [qn 1 (by decide)]; exact k1, by rw [qn 2 (by decide)]; exact k2, by rw [qn 3 (by decide)]; exact k3, by rw [qn 4 (by decide)]; exact k4, fun g g1 g2 => ?_, fun g g1 g2 => ?_, fun g g1 g2 => ?_⟩, fun _ => by rw [qn 1 (by decide)]; exact e1⟩
      · rw [qn 1 (by decide)] at g2
        omega
      · rw [qn 2 (by decide)] at g2
        rw [qr 2 (by decide)]
        exact kd g g1 g2
      · rw [qn 4 (by decide)] at g2
        rw [qr 3 (by decide)]
        exact kr g g1 g2
    · exact absurd h (by simp)
  rename_i hc
  rw [if_neg hc]
  refine ⟨?_, fun q => absurd q (by decide)⟩
  split at h
  · split at h
    · rename_i hq
      simp only [Option.some.injEq] at h
      subst h
      obtain ⟨-, h8, n0, n1, n2, n12, n3, n4⟩ := hq
      have f0 : ∀ y, y ≠ 1 → (addG K N) 0 y = K 0 y := fun y hy => by rw [addG_0, fset_ne hy]
      have f1 : (addG K N) 0 1 = K 0 1 + 1 := by rw [addG_0, fset_at]
      refine ⟨by rw [f0 0 (by decide)]; exact k0, by rw [f1]; omega, by rw [f0 2 (by decide)]; exact k2, by rw [f0 3 (by decide)]; exact k3, by rw [f0 4 (by decide)]; exact k4, fun g g1 g2 => ?_, fun g g1 g2 => ?_, fun g g1 g2 => ?_⟩
      · rw [f1] at g2
        rw [f0 0 (by decide)]
        by_cases e : g = K 0 1
        · have r0 : (addG K N) 1 (5 * g) = N 0 := by
            rw [addG_1, if_neg (by omega), if_neg (by omega), if_neg (by omega), if_neg (by omega), if_pos (by omega)]
          have r1 : (addG K N) 1 (5 * g + 1) = N 1 := by
            rw [addG_1, if_neg (by omega), if_neg (by omega), if_neg (by omega), if_pos (by omega)]
          have r2 : (addG K N) 1 (5 * g + 2) = N 2 := by
            rw [addG_1, if_neg (by omega), if_neg (by omega), if_pos (by omega)]
          have r3 : (addG K N) 1 (5 * g + 3) = N 3 := by
            rw [addG_1, if_neg (by omega), if_pos (by omega)]
          have r4 : (addG K N) 1 (5 * g + 4) = N 4 := by
            rw [addG_1, if_pos (by omega)]
          rw [r0, r1, r2, r3, r4]
          omega
        · have r : ∀ i, 0 ≤ i → i < 5 → (addG K N) 1 (5 * g + i) = K 1 (5 * g + i) := fun i i1 i2 => by
            rw [addG_1, if_neg (by omega), if_neg (by omega), if_neg (by omega), if_neg (by omega), if_neg (by omega)]
          have r0 := r 0 (by omega) (by omega)
          rw [Int.add_zero] at r0
          rw [r0, r 1 (by omega) (by omega), r 2 (by omega) (by omega), r 3 (by omega) (by omega), r 4 (by omega) (by omega)]
          exact kg g g1 (by omega)
      · rw [f0 2 (by decide)] at g2
        rw [addG_n (by decide)]
        exact kd g g1 g2
      · rw [f0 4 (by decide)] at g2
        rw [addG_n (by decide)]
        exact kr g g1 g2
    · exact absurd h (by simp)
  split at h
  · split at h
    · rename_i hq
      simp only [Option.some.injEq] at h
      subst h
      obtain ⟨-, h8, n0, n1, n2⟩ := hq
      have f0 : ∀ y, y ≠ 2 → (addD K N) 0 y = K 0 y := fun y hy => by rw [addD_0, fset_ne hy]
      have f1 : (addD K N) 0 2 = K 0 2 + 1 := by rw [addD_0, fset_at]
      refine ⟨by rw [f0 0 (by decide)]; exact k0, by rw [f0 1 (by decide)]; exact k1, by rw [f1]; omega, by rw [f0 3 (by decide)]; exact k3, by rw [f0 4 (by decide)]; exact k4, fun g g1 g2 => ?_, fun g g1 g2 => ?_, fun g g1 g2 => ?_⟩
      · rw [f0 1 (by decide)] at g2
        rw [addD_n (by decide), f0 0 (by decide)]
        exact kg g g1 g2
      · rw [f1] at g2
        by_cases e : g = K 0 2
        · have r0 : (addD K N) 2 (3 * g) = N 0 := by
            rw [addD_2, if_neg (by omega), if_neg (by omega), if_pos (by omega)]
          have r1 : (addD K N) 2 (3 * g + 1) = N 1 := by
            rw [addD_2, if_neg (by omega), if_pos (by omega)]
          have r2 : (addD K N) 2 (3 * g + 2) = N 2 := by
            rw [addD_2, if_pos (by omega)]
          rw [r0, r1, r2]
          omega
        · have r : ∀ i, 0 ≤ i → i < 3 → (addD K N) 2 (3 * g + i) = K 2 (3 * g + i) := fun i i1 i2 => by
            rw [addD_2, if_neg (by omega), if_neg (by omega), if_neg (by omega)]
          have r0 := r 0 (by omega) (by omega)
          rw [Int.add_zero] at r0
          rw [r0, r 1 (by omega) (by omega), r 2 (by omega) (by omega)]
          exact kd g g1 (by omega)
      · rw [f0 4 (by decide)] at g2
        rw [addD_n (by decide)]
        exact kr g g1 g2
    · exact absurd h (by simp)
  split at h
  · split at h
    · rename_i hq
      simp only [Option.some.injEq] at h
      subst h
      have qn : ∀ y, y ≠ 3 → (sset K 0 3 (N 0)) 0 y = K 0 y := fun y hy => by rw [sset_fset, fset_ne hy]
      have qr : ∀ b, b ≠ 0 → (sset K 0 3 (N 0)) b = K b := fun b hb => sset_row hb
      refine ⟨by rw [qn 0 (by decide)]; exact k0, by rw [qn 1 (by decide)]; exact k1, by rw [qn 2 (by decide)]; exact k2, by rw [sset_at]; omega, by rw [qn 4 (by decide)]; exact k4, fun g g1 g2 => ?_, fun g g1 g2 => ?_, fun g g1 g2 => ?_⟩
      · rw [qn 1 (by decide)] at g2
        rw [qr 1 (by decide), qn 0 (by decide)]
        exact kg g g1 g2
      · rw [qn 2 (by decide)] at g2
        rw [qr 2 (by decide)]
        exact kd g g1 g2
      · rw [qn 4 (by decide)] at g2
        rw [qr 3 (by decide)]
        exact kr g g1 g2
    · exact absurd h (by simp)
  split at h
  · split at h
    · rename_i hq
      simp only [Option.some.injEq] at h
      subst h
      have f0 : ∀ y, y ≠ 4 → (addR K (N 0)) 0 y = K 0 y := fun y hy => by rw [addR_0, fset_ne hy]
      have f1 : (addR K (N 0)) 0 4 = K 0 4 + 1 := by rw [addR_0, fset_at]
      refine ⟨by rw [f0 0 (by decide)]; exact k0, by rw [f0 1 (by decide)]; exact k1, by rw [f0 2 (by decide)]; exact k2, by rw [f0 3 (by decide)]; exact k3, by rw [f1]; omega, fun g g1 g2 => ?_, fun g g1 g2 => ?_, fun g g1 g2 => ?_⟩
      · rw [f0 1 (by decide)] at g2
        rw [addR_n (by decide), f0 0 (by decide)]
        exact kg g g1 g2
      · rw [f0 2 (by decide)] at g2
        rw [addR_n (by decide)]
        exact kd g g1 g2
      · rw [f1] at g2
        rw [addR_3]
        by_cases e : g = K 0 4
        · rw [e, fset_at]; omega
        · rw [fset_ne e]; exact kr g g1 (by omega)
    · exact absurd h (by simp)
  · exact absurd h (by simp)
def rdl (t : Int → Int) (L : Int) : Nat → Int → Int → Lay → Int × Lay
  | 0, _, _, K => (-4, K)
  | k + 1, p, on, K => if p < L then (match nums t 5 0 (p + 1) (fun _ => 0) with
    | none => (p, K)
    | some r => match tki (t p) r.1 r.2.2 K on with
      | none => (p, K)
      | some K' => rdl t L k r.2.1 (if t p = 112 then on else 0) K') else (-4, K)
theorem vK_rdl (t : Int → Int) (L : Int) : ∀ (k : Nat) (p on : Int) (K : Lay), vK K → (on = 0 ∨ on = 1) → (on = 1 → K 0 1 = 0) → vK (rdl t L k p on K).2 := by
  intro k
  induction k with
  | zero => intro p on K hK _ _; exact hK
  | succ k ih =>
    intro p on K hK hon h1
    rw [rdl]
    split
    · split
      · exact hK
      · rename_i r _
        split
        · exact hK
        · rename_i K' hq
          obtain ⟨g1, g2⟩ := tki_v hK h1 hon hq
          exact ih _ _ _ g1 (by split <;> first | exact hon | exact Or.inl rfl) g2
    · exact hK

theorem l26 {nat : gNat} {d : Nat} {w : gWd} {x t m : Nat} {T : Int → Int} {L : Int} (hx : x + 1 < gSTR) (ht : t < gSTR) (htx : t < x ∨ x + 1 < t) (hm : m + 3 < gSTR) (hd : x + 1 < m ∨ m + 3 < x) (htm : t < m ∨ m + 3 < t) (hT : rd w t = iC 200 (eI T)) (hT1 : ∀ i, 0 ≤ i → i < 200 → 0 ≤ T i ∧ T i < 128) (hL : 0 ≤ L ∧ L ≤ 200) : ∀ (k : Nat) (p am on : Int) (N : Int → Int) (K : Lay) (z5 : Option Value), L - p ≤ k → (0 ≤ p ∧ p ≤ L) → vK K → (on = 0 ∨ on = 1) → (on = 1 → K 0 1 = 0) → ∃ (am' on' : Int) (N' : Int → Int), gX (gC nat (d + 4)) nat 26 12 [some (.ref x), some (.ref t), some (.int (J L)), some (.ref m), some (.int (J p)), z5] [] [] (putR (putK w m K) x am on N) = some (some (.int (J (rdl (ltr T L) L k p on K).1)), putR (putK w m (rdl (ltr T L) L k p on K).2) x am' on' N') := by
  intro k
  induction k with
  | zero =>
    intro p am on N K z5 h0 hp hK hon h1
    refine ⟨am, on, N, ?_⟩
    rw [rdl, e26_12]
    simp (disch := first | omega | exact Nat.le_of_ble_eq_true rfl) only [e26_0, e26_1, e26_4, e26_5, e26_6z0, e26_6z1, e26_9, e26_10, e26_14, e26_15, e26_18, e26_19, e26_20, e26_21, e26_23, e26_26, e26_28, e26_30, e26_32, e26_35, e26_36, e26_37, e26_39, e26_42, e26_43, e26_46, e26_49, e26_51, e26_52, e26_54, e26_56, e26_59, e26_61, J_add, J_sub, J_mul, J_neg, J_lt, J_le, J_eq, gArr_J, gAst_J, gSiz_J, gFld_o, gUpd_o0, gUpd_o1, gUpd_o2, gUpd_o3, gUpd_o4, gUpd_o5, gUpd_o6, gUpd_o7, gUpd_o8, gUpd_o9, gUpd_o10, gUpd_o11, gUpd_o12, gUpd_o13, gUpd_o14, gUpd_o15, gUpd_o16, gUpd_o17, gUpd_o18, gIsO_o, Option.bind_some, List.getElem?_cons_zero, List.getElem?_cons_succ, List.length_cons, List.length_nil, List.set_cons_zero, List.set_cons_succ, gCat_nil, gCat_int, gCat_ref, if_pos, if_neg, Option.toList_some, Option.toList_none, List.cons_append, List.nil_append, B_nar, J1_nar, J0_nar, if_true, if_false, rd_wr_same, rd_wr_ne, true_and, and_true, B_0, B_1, not_true_eq_false, not_false_eq_true]
  | succ k ih =>
    intro p am on N K z5 h0 hp hK hon h1
    rw [rdl, e26_12]
    by_cases hlt : p < L
    · rw [if_pos hlt]
      have hr : ∀ K, rd (putK w m K) t = iC 200 (eI T) := fun K => by rw [rdKn htm]; exact hT
      obtain ⟨am', N', g1, g2⟩ := s27 (nat := nat) (d := d + 2) (w := putK w m K) (on := on) hx ht htx (hr K) hT1 hL (p := p) (am := am) (by omega) (N := N)
      have cA : ∀ (am on : Int) (N : Int → Int), gC nat (d + 4) 117 [.ref t, .int (J p)] (putR (putK w m K) x am on N) = some (some (.int (J (T p))), putR (putK w m K) x am on N) := fun am on N => s117 (d := d + 3) (by rw [rdRn htx]; exact hr K) ht (by omega) (by omega)
      have hb := hT1 p (by omega) (by omega)
      have eT : ltr T L p = T p := ltr_lt hlt
      rcases hn : nums (ltr T L) 5 0 (p + 1) (fun _ => 0) with _ | ⟨a, q, R⟩
      · rw [hn] at g1
        refine ⟨am', on, N', ?_⟩
        simp (disch := first | omega | exact Nat.le_of_ble_eq_true rfl) only [e26_0, e26_1, e26_4, e26_5, e26_6z0, e26_6z1, e26_9, e26_10, e26_14, e26_15, e26_18, e26_19, e26_20, e26_21, e26_23, e26_26, e26_28, e26_30, e26_32, e26_35, e26_36, e26_37, e26_39, e26_42, e26_43, e26_46, e26_49, e26_51, e26_52, e26_54, e26_56, e26_59, e26_61, J_add, J_sub, J_mul, J_neg, J_lt, J_le, J_eq, gArr_J, gAst_J, gSiz_J, gFld_o, gUpd_o0, gUpd_o1, gUpd_o2, gUpd_o3, gUpd_o4, gUpd_o5, gUpd_o6, gUpd_o7, gUpd_o8, gUpd_o9, gUpd_o10, gUpd_o11, gUpd_o12, gUpd_o13, gUpd_o14, gUpd_o15, gUpd_o16, gUpd_o17, gUpd_o18, gIsO_o, Option.bind_some, List.getElem?_cons_zero, List.getElem?_cons_succ, List.length_cons, List.length_nil, List.set_cons_zero, List.set_cons_succ, gCat_nil, gCat_int, gCat_ref, if_pos, if_neg, Option.toList_some, Option.toList_none, List.cons_append, List.nil_append, B_nar, J1_nar, J0_nar, if_true, if_false, rd_wr_same, rd_wr_ne, true_and, and_true, B_0, B_1, not_true_eq_false, not_false_eq_true, g1, rdR0]
      · rw [hn] at g1
        obtain ⟨rfl, gN⟩ := g2 a q R hn
        obtain ⟨n1, n2, n3, n4, n5, n6⟩ := nums_in _ _ _ _ _ _ _ _ hn
        have hq : q ≤ L := by
          by_cases hc : q ≤ L
          · exact hc
          · rw [ltr_ge (by omega)] at n6
            omega
        have cB := s28 (nat := nat) (d := d) (w := w) (x := x) (m := m) (a := am') (on := on) (N := N') (K := K) hx hm hd (by omega) (fun y y1 y2 => by rw [gN y y1 y2]; exact n5 y y1 y2) ⟨by have := hK.1; omega, hK.2.1, hK.2.2.1, hK.2.2.2.2.1⟩ hon (c := T p) (by omega)
        rw [tki_congr (by omega) gN, ← eT] at cB
        rw [← eT] at cA
        dsimp only
        rcases hk : tki (ltr T L p) am' R K on with _ | K'
        · rw [hk] at cB
          simp only [Option.isSome_none, Option.getD_none, if_false, Bool.false_eq_true] at cB
          refine ⟨am', (if ltr T L p = 112 then on else 0), N', ?_⟩
          simp (disch := first | omega | exact Nat.le_of_ble_eq_true rfl) only [e26_0, e26_1, e26_4, e26_5, e26_6z0, e26_6z1, e26_9, e26_10, e26_14, e26_15, e26_18, e26_19, e26_20, e26_21, e26_23, e26_26, e26_28, e26_30, e26_32, e26_35, e26_36, e26_37, e26_39, e26_42, e26_43, e26_46, e26_49, e26_51, e26_52, e26_54, e26_56, e26_59, e26_61, J_add, J_sub, J_mul, J_neg, J_lt, J_le, J_eq, gArr_J, gAst_J, gSiz_J, gFld_o, gUpd_o0, gUpd_o1, gUpd_o2, gUpd_o3, gUpd_o4, gUpd_o5, gUpd_o6, gUpd_o7, gUpd_o8, gUpd_o9, gUpd_o10, gUpd_o11, gUpd_o12, gUpd_o13, gUpd_o14, gUpd_o15, gUpd_o16, gUpd_o17, gUpd_o18, gIsO_o, Option.bind_some, List.getElem?_cons_zero, List.getElem?_cons_succ, List.length_cons, List.length_nil, List.set_cons_zero, List.set_cons_succ, gCat_nil, gCat_int, gCat_ref, if_pos, if_neg, Option.toList_some, Option.toList_none, List.cons_append, List.nil_append, B_nar, J1_nar, J0_nar, if_true, if_false, rd_wr_same, rd_wr_ne, true_and, and_true, B_0, B_1, not_true_eq_false, not_false_eq_true, g1, cA, cB, rdR0, rdR0]
        · rw [hk] at cB
          simp only [Option.isSome_some, Option.getD_some, if_true] at cB
          obtain ⟨v1, v2⟩ := tki_v hK h1 hon hk
          obtain ⟨am2, on2, N2, this⟩ := ih q am' (if ltr T L p = 112 then on else 0) N' K' (some (.int (J q))) (by omega) (by omega) v1 (by split <;> first | exact hon | exact Or.inl rfl) v2
          refine ⟨am2, on2, N2, ?_⟩
          rw [← this]
          simp (disch := first | omega | exact Nat.le_of_ble_eq_true rfl) only [e26_0, e26_1, e26_4, e26_5, e26_6z0, e26_6z1, e26_9, e26_10, e26_14, e26_15, e26_18, e26_19, e26_20, e26_21, e26_23, e26_26, e26_28, e26_30, e26_32, e26_35, e26_36, e26_37, e26_39, e26_42, e26_43, e26_46, e26_49, e26_51, e26_52, e26_54, e26_56, e26_59, e26_61, J_add, J_sub, J_mul, J_neg, J_lt, J_le, J_eq, gArr_J, gAst_J, gSiz_J, gFld_o, gUpd_o0, gUpd_o1, gUpd_o2, gUpd_o3, gUpd_o4, gUpd_o5, gUpd_o6, gUpd_o7, gUpd_o8, gUpd_o9, gUpd_o10, gUpd_o11, gUpd_o12, gUpd_o13, gUpd_o14, gUpd_o15, gUpd_o16, gUpd_o17, gUpd_o18, gIsO_o, Option.bind_some, List.getElem?_cons_zero, List.getElem?_cons_succ, List.length_cons, List.length_nil, List.set_cons_zero, List.set_cons_succ, gCat_nil, gCat_int, gCat_ref, if_pos, if_neg, Option.toList_some, Option.toList_none, List.cons_append, List.nil_append, B_nar, J1_nar, J0_nar, if_true, if_false, rd_wr_same, rd_wr_ne, true_and, and_true, B_0, B_1, not_true_eq_false, not_false_eq_true, g1, cA, cB, rdR0, rdR0]
    · rw [if_neg hlt]
      refine ⟨am, on, N, ?_⟩
      simp (disch := first | omega | exact Nat.le_of_ble_eq_true rfl) only [e26_0, e26_1, e26_4, e26_5, e26_6z0, e26_6z1, e26_9, e26_10, e26_14, e26_15, e26_18, e26_19, e26_20, e26_21, e26_23, e26_26, e26_28, e26_30, e26_32, e26_35, e26_36, e26_37, e26_39, e26_42, e26_43, e26_46, e26_49, e26_51, e26_52, e26_54, e26_56, e26_59, e26_61, J_add, J_sub, J_mul, J_neg, J_lt, J_le, J_eq, gArr_J, gAst_J, gSiz_J, gFld_o, gUpd_o0, gUpd_o1, gUpd_o2, gUpd_o3, gUpd_o4, gUpd_o5, gUpd_o6, gUpd_o7, gUpd_o8, gUpd_o9, gUpd_o10, gUpd_o11, gUpd_o12, gUpd_o13, gUpd_o14, gUpd_o15, gUpd_o16, gUpd_o17, gUpd_o18, gIsO_o, Option.bind_some, List.getElem?_cons_zero, List.getElem?_cons_succ, List.length_cons, List.length_nil, List.set_cons_zero, List.set_cons_succ, gCat_nil, gCat_int, gCat_ref, if_pos, if_neg, Option.toList_some, Option.toList_none, List.cons_append, List.nil_append, B_nar, J1_nar, J0_nar, if_true, if_false, rd_wr_same, rd_wr_ne, true_and, and_true, B_0, B_1, not_true_eq_false, not_false_eq_true]

theorem s26 {nat : gNat} {d : Nat} {w : gWd} {x t m : Nat} {T : Int → Int} {L : Int} (hx : x + 1 < gSTR) (ht : t < gSTR) (htx : t < x ∨ x + 1 < t) (hm : m + 3 < gSTR) (hd : x + 1 < m ∨ m + 3 < x) (htm : t < m ∨ m + 3 < t) (hT : rd w t = iC 200 (eI T)) (hT1 : ∀ i, 0 ≤ i → i < 200 → 0 ≤ T i ∧ T i < 128) (hL : 0 ≤ L ∧ L ≤ 200) {am on : Int} {N : Int → Int} {K : Lay} : ∃ (am' on' : Int) (N' : Int → Int), gC nat (d + 5) 26 [.ref x, .ref t, .int (J L), .ref m] (putR (putK w m K) x am on N) = some (some (.int (J (rdl (ltr T L) L L.toNat 0 1 (clrK K)).1)), putR (putK w m (rdl (ltr T L) L L.toNat 0 1 (clrK K)).2) x am' on' N') := by
  have e1 : (clrK K) 0 1 = 0 := by simp [clrK, sset]
  obtain ⟨am2, on2, N2, this⟩ := l26 (nat := nat) (d := d) hx ht htx hm hd htm hT hT1 hL L.toNat 0 am 1 N (clrK K) none (by omega) (by omega) (vK_clr K) (Or.inr rfl) (fun _ => e1)
  refine ⟨am2, on2, N2, ?_⟩
  rw [← this, en26]
  have rM : ∀ K am on N, rd (putR (putK w m K) x am on N) m = oC 2 [.int (J (K 0 0)), .int (J (K 0 1)), .int (J (K 0 2)), .int (J (K 0 3)), .int (J (K 0 4)), .ref (m + 1), .ref (m + 2), .ref (m + 3)] := fun K am on N => by rw [rdRn (by omega)]; exact rdK0
  have c1 := s14 (nat := nat) (d := d + 3) (w := putR w x am on N) (K := K) hm
  rw [← putR_putK hd, ← putR_putK hd] at c1
  simp (disch := first | omega | exact Nat.le_of_ble_eq_true rfl) only [e26_0, e26_1, e26_4, e26_5, e26_6z0, e26_6z1, e26_9, e26_10, e26_14, e26_15, e26_18, e26_19, e26_20, e26_21, e26_23, e26_26, e26_28, e26_30, e26_32, e26_35, e26_36, e26_37, e26_39, e26_42, e26_43, e26_46, e26_49, e26_51, e26_52, e26_54, e26_56, e26_59, e26_61, J_add, J_sub, J_mul, J_neg, J_lt, J_le, J_eq, gArr_J, gAst_J, gSiz_J, gFld_o, gUpd_o0, gUpd_o1, gUpd_o2, gUpd_o3, gUpd_o4, gUpd_o5, gUpd_o6, gUpd_o7, gUpd_o8, gUpd_o9, gUpd_o10, gUpd_o11, gUpd_o12, gUpd_o13, gUpd_o14, gUpd_o15, gUpd_o16, gUpd_o17, gUpd_o18, gIsO_o, Option.bind_some, List.getElem?_cons_zero, List.getElem?_cons_succ, List.length_cons, List.length_nil, List.set_cons_zero, List.set_cons_succ, gCat_nil, gCat_int, gCat_ref, if_pos, if_neg, Option.toList_some, Option.toList_none, List.cons_append, List.nil_append, B_nar, J1_nar, J0_nar, if_true, if_false, rd_wr_same, rd_wr_ne, true_and, and_true, B_0, B_1, not_true_eq_false, not_false_eq_true, c1, rM, rdR0, wR0]
