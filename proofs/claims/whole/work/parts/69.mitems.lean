def itR (t : Int → Int) (p c : Int) (K : Lay) (on : Int) (A : Int → Lay → Prop) (Q : Prop) : Prop := (∀ a q R K', nums t 5 0 p (fun _ => 0) = some (a, q, R) → tki c a R K on = some K' → A q K') ∧ ((∀ a q R K', nums t 5 0 p (fun _ => 0) = some (a, q, R) → tki c a R K on ≠ some K') → Q)
theorem it_t {t : Int → Int} {p c : Int} {K : Lay} {on : Int} {A : Int → Lay → Prop} {Q : Prop} {many q : Int} {R : Int → Int} {K1 : Lay} (hn : nums t 5 0 p (fun _ => 0) = some (many, q, R)) (hk : tki c many R K on = some K1) (m1 : A q K1) : itR t p c K on A Q := by
  refine ⟨fun a q' R' K' h1 h2 => ?_, fun h => absurd hk (h _ _ _ _ hn)⟩
  have e := hn.symm.trans h1
  have e1 := Prod.mk.inj (Option.some.inj e)
  have e2 := Prod.mk.inj e1.2
  rw [← e1.1, ← e2.2, hk] at h2
  rw [← e2.1, ← Option.some.inj h2]
  exact m1
theorem it_n {t : Int → Int} {p c : Int} {K : Lay} {on : Int} {A : Int → Lay → Prop} {Q : Prop} {many q : Int} {R : Int → Int} (hn : nums t 5 0 p (fun _ => 0) = some (many, q, R)) (hk : tki c many R K on = none) (m0 : Q) : itR t p c K on A Q := by
  refine ⟨fun a q' R' K' h1 h2 => ?_, fun _ => m0⟩
  have e := hn.symm.trans h1
  have e1 := Prod.mk.inj (Option.some.inj e)
  have e2 := Prod.mk.inj e1.2
  rw [← e1.1, ← e2.2, hk] at h2
  exact absurd h2 (by simp)
theorem it_f {t : Int → Int} {p c : Int} {K : Lay} {on : Int} {A : Int → Lay → Prop} {Q : Prop} {many : Int} (hf : ∀ q R, nums t 5 0 p (fun _ => 0) ≠ some (many, q, R)) (ha : ∀ a R K', tki c a R K on = some K' → a = many) (m0 : Q) : itR t p c K on A Q := by
  refine ⟨fun a q' R' K' h1 h2 => ?_, fun _ => m0⟩
  rw [ha _ _ _ h2] at h1
  exact absurd h1 (hf _ _)
theorem it_v {t : Int → Int} {p c : Int} {K : Lay} {on : Int} {A : Int → Lay → Prop} {Q : Prop} (hv : ∀ a R, tki c a R K on = none) (m0 : Q) : itR t p c K on A Q := by
  refine ⟨fun a q' R' K' h1 h2 => ?_, fun _ => m0⟩
  rw [hv] at h2
  exact absurd h2 (by simp)
def mNow (K : Lay) (P : Int → Int) : Prop := P 0 = 0 ∧ (∀ g, 0 ≤ g → g < 8 → P (1 + g) = 0) ∧ (∀ y, 0 ≤ y → y < K 0 2 → P (9 + y) = K 2 (3 * y + 1))
theorem tki_p {a : Int} {N : Int → Int} {K : Lay} {on : Int} : tki 112 a N K on = if on = 1 ∧ a = 1 ∧ (1 ≤ N 0 ∧ N 0 ≤ 8) then some (sset K 0 0 (N 0)) else none := by
  unfold tki
  rw [if_pos rfl]
theorem tki_g {a : Int} {N : Int → Int} {K : Lay} {on : Int} : tki 103 a N K on = if a = 5 ∧ K 0 1 < 8 ∧ (0 ≤ N 0 ∧ N 0 ≤ 3) ∧ (0 ≤ N 1 ∧ N 1 ≤ K 0 0 - 1) ∧ (0 ≤ N 2 ∧ N 2 ≤ K 0 0 - 1) ∧ ¬ N 1 = N 2 ∧ (0 ≤ N 3 ∧ N 3 ≤ 40) ∧ (1 ≤ N 4 ∧ N 4 ≤ 20) then some (addG K N) else none := by
  unfold tki
  rw [if_neg (by decide), if_pos rfl]
theorem tki_d {a : Int} {N : Int → Int} {K : Lay} {on : Int} : tki 100 a N K on = if a = 3 ∧ K 0 2 < 4 ∧ (0 ≤ N 0 ∧ N 0 ≤ 3) ∧ (0 ≤ N 1 ∧ N 1 ≤ 40) ∧ (1 ≤ N 2 ∧ N 2 ≤ 9) then some (addD K N) else none := by
  unfold tki
  rw [if_neg (by decide), if_neg (by decide), if_pos rfl]
theorem tki_l {a : Int} {N : Int → Int} {K : Lay} {on : Int} : tki 108 a N K on = if a = 1 ∧ (1 ≤ N 0 ∧ N 0 ≤ 24) then some (sset K 0 3 (N 0)) else none := by
  unfold tki
  rw [if_neg (by decide), if_neg (by decide), if_neg (by decide), if_pos rfl]
theorem tki_r {a : Int} {N : Int → Int} {K : Lay} {on : Int} : tki 114 a N K on = if a = 1 ∧ K 0 4 < 12 ∧ (0 ≤ N 0 ∧ N 0 ≤ 1) then some (addR K (N 0)) else none := by
  unfold tki
  rw [if_neg (by decide), if_neg (by decide), if_neg (by decide), if_neg (by decide), if_pos rfl]
theorem tki_x {c a : Int} {N : Int → Int} {K : Lay} {on : Int} (h : c ≠ 112 ∧ c ≠ 103 ∧ c ≠ 100 ∧ c ≠ 108 ∧ c ≠ 114) : tki c a N K on = none := by
  unfold tki
  rw [if_neg h.1, if_neg h.2.1, if_neg h.2.2.1, if_neg h.2.2.2.1, if_neg h.2.2.2.2]

theorem i133 {nat : gNat} {d : Nat} {w : gWd} {x : Nat} {M : Lay} (hx : x + 12 < gSTR) (h0 : 0 ≤ M 0 0 ∧ M 0 0 ≤ 200) {t : Int → Int} (ht : ∀ i, 0 ≤ i → ltr (M 1) (M 0 0) i = t i) (htb : ∀ i, 0 ≤ i → 0 ≤ t i ∧ t i < 128) {K : Lay} (hK : vK K) {b p : Int} {N L P : Int → Int} (hb : b = 0 ∨ b = 1) (hp : 0 ≤ p ∧ p ≤ 201) (hL : mLaw K L) (hP : mNow K P) : itR t p 108 K (1 - b) (fun q K' => ∃ N' L' P', gC nat (d + 4) 133 [.ref x] (putM w x (rst M p b N L P)) = some (some (.int (J 1)), putM w x (rst M q b N' L' P')) ∧ mLaw K' L' ∧ mNow K' P') (∃ p' N' L' P', gC nat (d + 4) 133 [.ref x] (putM w x (rst M p b N L P)) = some (some (.int (J 0)), putM w x (rst M p' b N' L' P'))) := by
  obtain ⟨f0, f1, f2, f3, f4, fr, fg, fd⟩ := id hL
  obtain ⟨k0, k1, k2, k3, k4, kg, kd, kr⟩ := id hK
  have c1 := s129 (nat := nat) (d := d) (w := w) (b := b) (N := N) (L := L) (P := P) hx h0 ht htb (k := 1) (by omega) hp
  rw [show ((1 : Nat) : Int) = 1 from rfl] at c1
  have hr : (∀ q R1, rn t 1 1 0 p N = (true, q, R1) → ∃ R2, nums t 5 0 p (fun _ => 0) = some (1, q, R2) ∧ ∀ y, 0 ≤ y → y < 1 → R1 y = R2 y) ∧ ((rn t 1 1 0 p N).1 = false → ∀ q R, nums t 5 0 p (fun _ => 0) ≠ some (1, q, R)) := rn_nums t 1 0 4 0 p N (fun _ => 0) (by omega) (fun y y1 y2 => by omega)
  rw [en133]
  rcases hrn : rn t 1 1 0 p N with ⟨bb, q, R1⟩
  rw [hrn] at c1 hr
  dsimp only at c1 hr
  cases bb
  case false =>
    rw [if_neg (by decide)] at c1
    refine it_f (hr.2 rfl) (fun a R K' h => ?_) ⟨q, R1, L, P, ?_⟩
    · rw [tki_l] at h
      split at h
      · rename_i z
        exact z.1
      · exact absurd h (by simp)
    ·
      simp (disch := first | omega | exact Nat.le_of_ble_eq_true rfl) only [e133_0, e133_1, e133_2, e133_5, e133_8, e133_9, e133_12, e133_13, e133_14, e133_15, e133_17, e133_20, e133_23, e133_24, e133_25, e133_26, e133_29, e133_30, e133_31, e133_34, e133_35, e133_36, e133_37, e133_38, J_add, J_sub, J_mul, J_neg, J_lt, J_le, J_eq, gArr_J, gAst_J, gSiz_J, gFld_o, gUpd_o0, gUpd_o1, gUpd_o2, gUpd_o3, gUpd_o4, gUpd_o5, gUpd_o6, gUpd_o7, gUpd_o8, gUpd_o9, gUpd_o10, gUpd_o11, gUpd_o12, gUpd_o13, gUpd_o14, gUpd_o15, gUpd_o16, gUpd_o17, gUpd_o18, gIsO_o, Option.bind_some, List.getElem?_cons_zero, List.getElem?_cons_succ, List.length_cons, List.length_nil, List.set_cons_zero, List.set_cons_succ, gCat_nil, gCat_int, gCat_ref, if_pos, if_neg, Option.toList_some, Option.toList_none, List.cons_append, List.nil_append, B_nar, J1_nar, J0_nar, if_true, if_false, rd_wr_same, rd_wr_ne, true_and, and_true, B_0, B_1, not_true_eq_false, not_false_eq_true, rdM0, rdM1, rdM2, rdM3, rdM4, rdM5, rdM6, rdM7, rdM8, rdM9, rdM10, rdM11, rdM12, rset_at, rset_ne, rset_rset, w0M, wZ1, wZ2, wZ3, wZ4, wZ5, wZ6, wZ7, wZ8, wZ9, wZ10, wZ11, wZ12, f7_0, f7_1, f7_2, f7_3, f7_4, f7_5, f7_6, rst00, rst01, rst02, rst03, rst04, rst05, rst06, rst_1, rst_2, rst_3, rst_4, rst_w0, rst_w2, rst_w3, rst_w4, f0, f1, f2, f4, c1]
  case true =>
    rw [if_pos rfl] at c1
    obtain ⟨R2, hn, hR⟩ := hr.1 q R1 rfl
    have hin := nums_in _ _ _ _ _ _ _ _ hn
    have r0 := hR 0 (by omega) (by omega)
    have v0 := hin.2.2.2.2.1 0 (by omega) (by omega)
    have d0 := s122 (nat := nat) (d := d + 2) (w := putM w x (rst M q b R1 L P)) (v := R1 0) (l := 1) (h := 24) (by omega) (by omega) (by omega)
    by_cases q0 : 1 ≤ R1 0 ∧ R1 0 ≤ 24
    case neg =>
      rw [B_neg q0] at d0
      refine it_n hn (by rw [tki_l, if_neg (fun z => q0 (by omega))]) ⟨q, R1, L, P, ?_⟩
      simp (disch := first | omega | exact Nat.le_of_ble_eq_true rfl) only [e133_0, e133_1, e133_2, e133_5, e133_8, e133_9, e133_12, e133_13, e133_14, e133_15, e133_17, e133_20, e133_23, e133_24, e133_25, e133_26, e133_29, e133_30, e133_31, e133_34, e133_35, e133_36, e133_37, e133_38, J_add, J_sub, J_mul, J_neg, J_lt, J_le, J_eq, gArr_J, gAst_J, gSiz_J, gFld_o, gUpd_o0, gUpd_o1, gUpd_o2, gUpd_o3, gUpd_o4, gUpd_o5, gUpd_o6, gUpd_o7, gUpd_o8, gUpd_o9, gUpd_o10, gUpd_o11, gUpd_o12, gUpd_o13, gUpd_o14, gUpd_o15, gUpd_o16, gUpd_o17, gUpd_o18, gIsO_o, Option.bind_some, List.getElem?_cons_zero, List.getElem?_cons_succ, List.length_cons, List.length_nil, List.set_cons_zero, List.set_cons_succ, gCat_nil, gCat_int, gCat_ref, if_pos, if_neg, Option.toList_some, Option.toList_none, List.cons_append, List.nil_append, B_nar, J1_nar, J0_nar, if_true, if_false, rd_wr_same, rd_wr_ne, true_and, and_true, B_0, B_1, not_true_eq_false, not_false_eq_true, rdM0, rdM1, rdM2, rdM3, rdM4, rdM5, rdM6, rdM7, rdM8, rdM9, rdM10, rdM11, rdM12, rset_at, rset_ne, rset_rset, w0M, wZ1, wZ2, wZ3, wZ4, wZ5, wZ6, wZ7, wZ8, wZ9, wZ10, wZ11, wZ12, f7_0, f7_1, f7_2, f7_3, f7_4, f7_5, f7_6, rst00, rst01, rst02, rst03, rst04, rst05, rst06, rst_1, rst_2, rst_3, rst_4, rst_w0, rst_w2, rst_w3, rst_w4, f0, f1, f2, f4, c1, d0]
    case pos =>
      rw [B_pos q0] at d0
      refine it_t (K1 := sset K 0 3 (R2 0)) hn (by rw [tki_l, if_pos (by omega)]) ⟨R1, fset L 3 (R1 0), P, ?_, ?_, hP⟩
      ·
        simp (disch := first | omega | exact Nat.le_of_ble_eq_true rfl) only [e133_0, e133_1, e133_2, e133_5, e133_8, e133_9, e133_12, e133_13, e133_14, e133_15, e133_17, e133_20, e133_23, e133_24, e133_25, e133_26, e133_29, e133_30, e133_31, e133_34, e133_35, e133_36, e133_37, e133_38, J_add, J_sub, J_mul, J_neg, J_lt, J_le, J_eq, gArr_J, gAst_J, gSiz_J, gFld_o, gUpd_o0, gUpd_o1, gUpd_o2, gUpd_o3, gUpd_o4, gUpd_o5, gUpd_o6, gUpd_o7, gUpd_o8, gUpd_o9, gUpd_o10, gUpd_o11, gUpd_o12, gUpd_o13, gUpd_o14, gUpd_o15, gUpd_o16, gUpd_o17, gUpd_o18, gIsO_o, Option.bind_some, List.getElem?_cons_zero, List.getElem?_cons_succ, List.length_cons, List.length_nil, List.set_cons_zero, List.set_cons_succ, gCat_nil, gCat_int, gCat_ref, if_pos, if_neg, Option.toList_some, Option.toList_none, List.cons_append, List.nil_append, B_nar, J1_nar, J0_nar, if_true, if_false, rd_wr_same, rd_wr_ne, true_and, and_true, B_0, B_1, not_true_eq_false, not_false_eq_true, rdM0, rdM1, rdM2, rdM3, rdM4, rdM5, rdM6, rdM7, rdM8, rdM9, rdM10, rdM11, rdM12, rset_at, rset_ne, rset_rset, w0M, wZ1, wZ2, wZ3, wZ4, wZ5, wZ6, wZ7, wZ8, wZ9, wZ10, wZ11, wZ12, f7_0, f7_1, f7_2, f7_3, f7_4, f7_5, f7_6, rst00, rst01, rst02, rst03, rst04, rst05, rst06, rst_1, rst_2, rst_3, rst_4, rst_w0, rst_w2, rst_w3, rst_w4, f0, f1, f2, f4, c1, d0]
      · rw [← r0]
        exact ⟨by rw [fset_ne (by decide), sset_fset, fset_ne (by decide)]; exact f0, by rw [fset_ne (by decide), sset_fset, fset_ne (by decide)]; exact f1, by rw [fset_ne (by decide), sset_fset, fset_ne (by decide)]; exact f2, by rw [fset_at, sset_at], by rw [fset_ne (by decide), sset_fset, fset_ne (by decide)]; exact f4, fun r z1 z2 => by rw [sset_fset, fset_ne (by decide)] at z2; rw [fset_ne (by omega), sset_row (by decide)]; exact fr r z1 z2, fun g i z1 z2 z3 z4 => by rw [sset_fset, fset_ne (by decide)] at z2; rw [fset_ne (by omega), sset_row (by decide)]; exact fg g i z1 z2 z3 z4, fun y z1 z2 => by rw [sset_fset, fset_ne (by decide)] at z2; rw [fset_ne (by omega), fset_ne (by omega), sset_row (by decide)]; exact fd y z1 z2⟩

theorem i130 {nat : gNat} {d : Nat} {w : gWd} {x : Nat} {M : Lay} (hx : x + 12 < gSTR) (h0 : 0 ≤ M 0 0 ∧ M 0 0 ≤ 200) {t : Int → Int} (ht : ∀ i, 0 ≤ i → ltr (M 1) (M 0 0) i = t i) (htb : ∀ i, 0 ≤ i → 0 ≤ t i ∧ t i < 128) {K : Lay} (hK : vK K) {b p : Int} {N L P : Int → Int} (hb : b = 0 ∨ b = 1) (hp : 0 ≤ p ∧ p ≤ 201) (hL : mLaw K L) (hP : mNow K P) : itR t p 112 K (1 - b) (fun q K' => ∃ N' L' P', gC nat (d + 4) 130 [.ref x] (putM w x (rst M p b N L P)) = some (some (.int (J 1)), putM w x (rst M q b N' L' P')) ∧ mLaw K' L' ∧ mNow K' P') (∃ p' N' L' P', gC nat (d + 4) 130 [.ref x] (putM w x (rst M p b N L P)) = some (some (.int (J 0)), putM w x (rst M p' b N' L' P'))) := by
  obtain ⟨f0, f1, f2, f3, f4, fr, fg, fd⟩ := id hL
  obtain ⟨k0, k1, k2, k3, k4, kg, kd, kr⟩ := id hK
  have c1 := s129 (nat := nat) (d := d) (w := w) (b := b) (N := N) (L := L) (P := P) hx h0 ht htb (k := 1) (by omega) hp
  rw [show ((1 : Nat) : Int) = 1 from rfl] at c1
  have hr : (∀ q R1, rn t 1 1 0 p N = (true, q, R1) → ∃ R2, nums t 5 0 p (fun _ => 0) = some (1, q, R2) ∧ ∀ y, 0 ≤ y → y < 1 → R1 y = R2 y) ∧ ((rn t 1 1 0 p N).1 = false → ∀ q R, nums t 5 0 p (fun _ => 0) ≠ some (1, q, R)) := rn_nums t 1 0 4 0 p N (fun _ => 0) (by omega) (fun y y1 y2 => by omega)
  rw [en130]
  rcases hrn : rn t 1 1 0 p N with ⟨bb, q, R1⟩
  rw [hrn] at c1 hr
  dsimp only at c1 hr
  cases bb
  case false =>
    rw [if_neg (by decide)] at c1
    refine it_f (hr.2 rfl) (fun a R K' h => ?_) ⟨q, R1, L, P, ?_⟩
    · rw [tki_p] at h
      split at h
      · rename_i z
        exact z.2.1
      · exact absurd h (by simp)
    ·
      simp (disch := first | omega | exact Nat.le_of_ble_eq_true rfl) only [e130_0, e130_1, e130_2, e130_5, e130_8, e130_9, e130_12, e130_13, e130_14, e130_15, e130_17, e130_20, e130_23, e130_24, e130_27, e130_30, e130_31, e130_32, e130_33, e130_36, e130_37, e130_38, e130_41, e130_42, e130_43, e130_44, e130_45, J_add, J_sub, J_mul, J_neg, J_lt, J_le, J_eq, gArr_J, gAst_J, gSiz_J, gFld_o, gUpd_o0, gUpd_o1, gUpd_o2, gUpd_o3, gUpd_o4, gUpd_o5, gUpd_o6, gUpd_o7, gUpd_o8, gUpd_o9, gUpd_o10, gUpd_o11, gUpd_o12, gUpd_o13, gUpd_o14, gUpd_o15, gUpd_o16, gUpd_o17, gUpd_o18, gIsO_o, Option.bind_some, List.getElem?_cons_zero, List.getElem?_cons_succ, List.length_cons, List.length_nil, List.set_cons_zero, List.set_cons_succ, gCat_nil, gCat_int, gCat_ref, if_pos, if_neg, Option.toList_some, Option.toList_none, List.cons_append, List.nil_append, B_nar, J1_nar, J0_nar, if_true, if_false, rd_wr_same, rd_wr_ne, true_and, and_true, B_0, B_1, not_true_eq_false, not_false_eq_true, rdM0, rdM1, rdM2, rdM3, rdM4, rdM5, rdM6, rdM7, rdM8, rdM9, rdM10, rdM11, rdM12, rset_at, rset_ne, rset_rset, w0M, wZ1, wZ2, wZ3, wZ4, wZ5, wZ6, wZ7, wZ8, wZ9, wZ10, wZ11, wZ12, f7_0, f7_1, f7_2, f7_3, f7_4, f7_5, f7_6, rst00, rst01, rst02, rst03, rst04, rst05, rst06, rst_1, rst_2, rst_3, rst_4, rst_w0, rst_w2, rst_w3, rst_w4, f0, f1, f2, f4, c1]
  case true =>
    rw [if_pos rfl] at c1
    obtain ⟨R2, hn, hR⟩ := hr.1 q R1 rfl
    have hin := nums_in _ _ _ _ _ _ _ _ hn
    have r0 := hR 0 (by omega) (by omega)
    have v0 := hin.2.2.2.2.1 0 (by omega) (by omega)
    have d0 := s122 (nat := nat) (d := d + 2) (w := putM w x (rst M q b R1 L P)) (v := R1 0) (l := 1) (h := 8) (by omega) (by omega) (by omega)
    by_cases q0 : 1 ≤ R1 0 ∧ R1 0 ≤ 8
    case neg =>
      rw [B_neg q0] at d0
      refine it_n hn (by rw [tki_p, if_neg (fun z => q0 (by omega))]) ⟨q, R1, L, P, ?_⟩
      simp (disch := first | omega | exact Nat.le_of_ble_eq_true rfl) only [e130_0, e130_1, e130_2, e130_5, e130_8, e130_9, e130_12, e130_13, e130_14, e130_15, e130_17, e130_20, e130_23, e130_24, e130_27, e130_30, e130_31, e130_32, e130_33, e130_36, e130_37, e130_38, e130_41, e130_42, e130_43, e130_44, e130_45, J_add, J_sub, J_mul, J_neg, J_lt, J_le, J_eq, gArr_J, gAst_J, gSiz_J, gFld_o, gUpd_o0, gUpd_o1, gUpd_o2, gUpd_o3, gUpd_o4, gUpd_o5, gUpd_o6, gUpd_o7, gUpd_o8, gUpd_o9, gUpd_o10, gUpd_o11, gUpd_o12, gUpd_o13, gUpd_o14, gUpd_o15, gUpd_o16, gUpd_o17, gUpd_o18, gIsO_o, Option.bind_some, List.getElem?_cons_zero, List.getElem?_cons_succ, List.length_cons, List.length_nil, List.set_cons_zero, List.set_cons_succ, gCat_nil, gCat_int, gCat_ref, if_pos, if_neg, Option.toList_some, Option.toList_none, List.cons_append, List.nil_append, B_nar, J1_nar, J0_nar, if_true, if_false, rd_wr_same, rd_wr_ne, true_and, and_true, B_0, B_1, not_true_eq_false, not_false_eq_true, rdM0, rdM1, rdM2, rdM3, rdM4, rdM5, rdM6, rdM7, rdM8, rdM9, rdM10, rdM11, rdM12, rset_at, rset_ne, rset_rset, w0M, wZ1, wZ2, wZ3, wZ4, wZ5, wZ6, wZ7, wZ8, wZ9, wZ10, wZ11, wZ12, f7_0, f7_1, f7_2, f7_3, f7_4, f7_5, f7_6, rst00, rst01, rst02, rst03, rst04, rst05, rst06, rst_1, rst_2, rst_3, rst_4, rst_w0, rst_w2, rst_w3, rst_w4, f0, f1, f2, f4, c1, d0]
    case pos =>
      rw [B_pos q0] at d0
      by_cases q1 : b = 0
      case neg =>
        refine it_n hn (by rw [tki_p, if_neg (fun z => q1 (by omega))]) ⟨q, R1, L, P, ?_⟩
        simp (disch := first | omega | exact Nat.le_of_ble_eq_true rfl) only [e130_0, e130_1, e130_2, e130_5, e130_8, e130_9, e130_12, e130_13, e130_14, e130_15, e130_17, e130_20, e130_23, e130_24, e130_27, e130_30, e130_31, e130_32, e130_33, e130_36, e130_37, e130_38, e130_41, e130_42, e130_43, e130_44, e130_45, J_add, J_sub, J_mul, J_neg, J_lt, J_le, J_eq, gArr_J, gAst_J, gSiz_J, gFld_o, gUpd_o0, gUpd_o1, gUpd_o2, gUpd_o3, gUpd_o4, gUpd_o5, gUpd_o6, gUpd_o7, gUpd_o8, gUpd_o9, gUpd_o10, gUpd_o11, gUpd_o12, gUpd_o13, gUpd_o14, gUpd_o15, gUpd_o16, gUpd_o17, gUpd_o18, gIsO_o, Option.bind_some, List.getElem?_cons_zero, List.getElem?_cons_succ, List.length_cons, List.length_nil, List.set_cons_zero, List.set_cons_succ, gCat_nil, gCat_int, gCat_ref, if_pos, if_neg, Option.toList_some, Option.toList_none, List.cons_append, List.nil_append, B_nar, J1_nar, J0_nar, if_true, if_false, rd_wr_same, rd_wr_ne, true_and, and_true, B_0, B_1, not_true_eq_false, not_false_eq_true, rdM0, rdM1, rdM2, rdM3, rdM4, rdM5, rdM6, rdM7, rdM8, rdM9, rdM10, rdM11, rdM12, rset_at, rset_ne, rset_rset, w0M, wZ1, wZ2, wZ3, wZ4, wZ5, wZ6, wZ7, wZ8, wZ9, wZ10, wZ11, wZ12, f7_0, f7_1, f7_2, f7_3, f7_4, f7_5, f7_6, rst00, rst01, rst02, rst03, rst04, rst05, rst06, rst_1, rst_2, rst_3, rst_4, rst_w0, rst_w2, rst_w3, rst_w4, f0, f1, f2, f4, c1, d0]
      case pos =>
        refine it_t (K1 := sset K 0 0 (R2 0)) hn (by rw [tki_p, if_pos (by omega)]) ⟨R1, fset L 0 (R1 0), P, ?_, ?_, hP⟩
        ·
          simp (disch := first | omega | exact Nat.le_of_ble_eq_true rfl) only [e130_0, e130_1, e130_2, e130_5, e130_8, e130_9, e130_12, e130_13, e130_14, e130_15, e130_17, e130_20, e130_23, e130_24, e130_27, e130_30, e130_31, e130_32, e130_33, e130_36, e130_37, e130_38, e130_41, e130_42, e130_43, e130_44, e130_45, J_add, J_sub, J_mul, J_neg, J_lt, J_le, J_eq, gArr_J, gAst_J, gSiz_J, gFld_o, gUpd_o0, gUpd_o1, gUpd_o2, gUpd_o3, gUpd_o4, gUpd_o5, gUpd_o6, gUpd_o7, gUpd_o8, gUpd_o9, gUpd_o10, gUpd_o11, gUpd_o12, gUpd_o13, gUpd_o14, gUpd_o15, gUpd_o16, gUpd_o17, gUpd_o18, gIsO_o, Option.bind_some, List.getElem?_cons_zero, List.getElem?_cons_succ, List.length_cons, List.length_nil, List.set_cons_zero, List.set_cons_succ, gCat_nil, gCat_int, gCat_ref, if_pos, if_neg, Option.toList_some, Option.toList_none, List.cons_append, List.nil_append, B_nar, J1_nar, J0_nar, if_true, if_false, rd_wr_same, rd_wr_ne, true_and, and_true, B_0, B_1, not_true_eq_false, not_false_eq_true, rdM0, rdM1, rdM2, rdM3, rdM4, rdM5, rdM6, rdM7, rdM8, rdM9, rdM10, rdM11, rdM12, rset_at, rset_ne, rset_rset, w0M, wZ1, wZ2, wZ3, wZ4, wZ5, wZ6, wZ7, wZ8, wZ9, wZ10, wZ11, wZ12, f7_0, f7_1, f7_2, f7_3, f7_4, f7_5, f7_6, rst00, rst01, rst02, rst03, rst04, rst05, rst06, rst_1, rst_2, rst_3, rst_4, rst_w0, rst_w2, rst_w3, rst_w4, f0, f1, f2, f4, c1, d0]
        · rw [← r0]
          exact ⟨by rw [fset_at, sset_at], by rw [fset_ne (by decide), sset_fset, fset_ne (by decide)]; exact f1, by rw [fset_ne (by decide), sset_fset, fset_ne (by decide)]; exact f2, by rw [fset_ne (by decide), sset_fset, fset_ne (by decide)]; exact f3, by rw [fset_ne (by decide), sset_fset, fset_ne (by decide)]; exact f4, fun r z1 z2 => by rw [sset_fset, fset_ne (by decide)] at z2; rw [fset_ne (by omega), sset_row (by decide)]; exact fr r z1 z2, fun g i z1 z2 z3 z4 => by rw [sset_fset, fset_ne (by decide)] at z2; rw [fset_ne (by omega), sset_row (by decide)]; exact fg g i z1 z2 z3 z4, fun y z1 z2 => by rw [sset_fset, fset_ne (by decide)] at z2; rw [fset_ne (by omega), fset_ne (by omega), sset_row (by decide)]; exact fd y z1 z2⟩

theorem i134 {nat : gNat} {d : Nat} {w : gWd} {x : Nat} {M : Lay} (hx : x + 12 < gSTR) (h0 : 0 ≤ M 0 0 ∧ M 0 0 ≤ 200) {t : Int → Int} (ht : ∀ i, 0 ≤ i → ltr (M 1) (M 0 0) i = t i) (htb : ∀ i, 0 ≤ i → 0 ≤ t i ∧ t i < 128) {K : Lay} (hK : vK K) {b p : Int} {N L P : Int → Int} (hb : b = 0 ∨ b = 1) (hp : 0 ≤ p ∧ p ≤ 201) (hL : mLaw K L) (hP : mNow K P) : itR t p 114 K (1 - b) (fun q K' => ∃ N' L' P', gC nat (d + 4) 134 [.ref x] (putM w x (rst M p b N L P)) = some (some (.int (J 1)), putM w x (rst M q b N' L' P')) ∧ mLaw K' L' ∧ mNow K' P') (∃ p' N' L' P', gC nat (d + 4) 134 [.ref x] (putM w x (rst M p b N L P)) = some (some (.int (J 0)), putM w x (rst M p' b N' L' P'))) := by
  obtain ⟨f0, f1, f2, f3, f4, fr, fg, fd⟩ := id hL
  obtain ⟨k0, k1, k2, k3, k4, kg, kd, kr⟩ := id hK
  have c1 := s129 (nat := nat) (d := d) (w := w) (b := b) (N := N) (L := L) (P := P) hx h0 ht htb (k := 1) (by omega) hp
  rw [show ((1 : Nat) : Int) = 1 from rfl] at c1
  have hr : (∀ q R1, rn t 1 1 0 p N = (true, q, R1) → ∃ R2, nums t 5 0 p (fun _ => 0) = some (1, q, R2) ∧ ∀ y, 0 ≤ y → y < 1 → R1 y = R2 y) ∧ ((rn t 1 1 0 p N).1 = false → ∀ q R, nums t 5 0 p (fun _ => 0) ≠ some (1, q, R)) := rn_nums t 1 0 4 0 p N (fun _ => 0) (by omega) (fun y y1 y2 => by omega)
  rw [en134]
  by_cases hg : K 0 4 < 12
  case neg =>
    refine it_v (fun a R => by rw [tki_r, if_neg (fun z => hg z.2.1)]) ⟨p, N, L, P, ?_⟩
    simp (disch := first | omega | exact Nat.le_of_ble_eq_true rfl) only [e134_0, e134_1, e134_4, e134_5, e134_6, e134_8, e134_11, e134_12, e134_13, e134_16, e134_19, e134_20, e134_23, e134_24, e134_25, e134_26, e134_27, e134_30, e134_33, e134_34, e134_35, e134_36, e134_39, e134_40, e134_41, e134_44, e134_45, e134_46, e134_47, e134_48, e134_51, e134_52, e134_53, e134_54, e134_55, e134_58, e134_59, e134_60, e134_61, e134_62, e134_63, e134_64, e134_65, J_add, J_sub, J_mul, J_neg, J_lt, J_le, J_eq, gArr_J, gAst_J, gSiz_J, gFld_o, gUpd_o0, gUpd_o1, gUpd_o2, gUpd_o3, gUpd_o4, gUpd_o5, gUpd_o6, gUpd_o7, gUpd_o8, gUpd_o9, gUpd_o10, gUpd_o11, gUpd_o12, gUpd_o13, gUpd_o14, gUpd_o15, gUpd_o16, gUpd_o17, gUpd_o18, gIsO_o, Option.bind_some, List.getElem?_cons_zero, List.getElem?_cons_succ, List.length_cons, List.length_nil, List.set_cons_zero, List.set_cons_succ, gCat_nil, gCat_int, gCat_ref, if_pos, if_neg, Option.toList_some, Option.toList_none, List.cons_append, List.nil_append, B_nar, J1_nar, J0_nar, if_true, if_false, rd_wr_same, rd_wr_ne, true_and, and_true, B_0, B_1, not_true_eq_false, not_false_eq_true, rdM0, rdM1, rdM2, rdM3, rdM4, rdM5, rdM6, rdM7, rdM8, rdM9, rdM10, rdM11, rdM12, rset_at, rset_ne, rset_rset, w0M, wZ1, wZ2, wZ3, wZ4, wZ5, wZ6, wZ7, wZ8, wZ9, wZ10, wZ11, wZ12, f7_0, f7_1, f7_2, f7_3, f7_4, f7_5, f7_6, rst00, rst01, rst02, rst03, rst04, rst05, rst06, rst_1, rst_2, rst_3, rst_4, rst_w0, rst_w2, rst_w3, rst_w4, f1, f2, f4]
  rcases hrn : rn t 1 1 0 p N with ⟨bb, q, R1⟩
  rw [hrn] at c1 hr
  dsimp only at c1 hr
  cases bb
  case false =>
    rw [if_neg (by decide)] at c1
    refine it_f (hr.2 rfl) (fun a R K' h => ?_) ⟨q, R1, L, P, ?_⟩
    · rw [tki_r] at h
      split at h
      · rename_i z
        exact z.1
      · exact absurd h (by simp)
    ·
      simp (disch := first | omega | exact Nat.le_of_ble_eq_true rfl) only [e134_0, e134_1, e134_4, e134_5, e134_6, e134_8, e134_11, e134_12, e134_13, e134_16, e134_19, e134_20, e134_23, e134_24, e134_25, e134_26, e134_27, e134_30, e134_33, e134_34, e134_35, e134_36, e134_39, e134_40, e134_41, e134_44, e134_45, e134_46, e134_47, e134_48, e134_51, e134_52, e134_53, e134_54, e134_55, e134_58, e134_59, e134_60, e134_61, e134_62, e134_63, e134_64, e134_65, J_add, J_sub, J_mul, J_neg, J_lt, J_le, J_eq, gArr_J, gAst_J, gSiz_J, gFld_o, gUpd_o0, gUpd_o1, gUpd_o2, gUpd_o3, gUpd_o4, gUpd_o5, gUpd_o6, gUpd_o7, gUpd_o8, gUpd_o9, gUpd_o10, gUpd_o11, gUpd_o12, gUpd_o13, gUpd_o14, gUpd_o15, gUpd_o16, gUpd_o17, gUpd_o18, gIsO_o, Option.bind_some, List.getElem?_cons_zero, List.getElem?_cons_succ, List.length_cons, List.length_nil, List.set_cons_zero, List.set_cons_succ, gCat_nil, gCat_int, gCat_ref, if_pos, if_neg, Option.toList_some, Option.toList_none, List.cons_append, List.nil_append, B_nar, J1_nar, J0_nar, if_true, if_false, rd_wr_same, rd_wr_ne, true_and, and_true, B_0, B_1, not_true_eq_false, not_false_eq_true, rdM0, rdM1, rdM2, rdM3, rdM4, rdM5, rdM6, rdM7, rdM8, rdM9, rdM10, rdM11, rdM12, rset_at, rset_ne, rset_rset, w0M, wZ1, wZ2, wZ3, wZ4, wZ5, wZ6, wZ7, wZ8, wZ9, wZ10, wZ11, wZ12, f7_0, f7_1, f7_2, f7_3, f7_4, f7_5, f7_6, rst00, rst01, rst02, rst03, rst04, rst05, rst06, rst_1, rst_2, rst_3, rst_4, rst_w0, rst_w2, rst_w3, rst_w4, f0, f1, f2, f4, c1]
  case true =>
    rw [if_pos rfl] at c1
    obtain ⟨R2, hn, hR⟩ := hr.1 q R1 rfl
    have hin := nums_in _ _ _ _ _ _ _ _ hn
    have r0 := hR 0 (by omega) (by omega)
    have v0 := hin.2.2.2.2.1 0 (by omega) (by omega)
    have d0 := s122 (nat := nat) (d := d + 2) (w := putM w x (rst M q b R1 L P)) (v := R1 0) (l := 0) (h := 1) (by omega) (by omega) (by omega)
    by_cases q0 : 0 ≤ R1 0 ∧ R1 0 ≤ 1
    case neg =>
      rw [B_neg q0] at d0
      refine it_n hn (by rw [tki_r, if_neg (fun z => q0 (by omega))]) ⟨q, R1, L, P, ?_⟩
      simp (disch := first | omega | exact Nat.le_of_ble_eq_true rfl) only [e134_0, e134_1, e134_4, e134_5, e134_6, e134_8, e134_11, e134_12, e134_13, e134_16, e134_19, e134_20, e134_23, e134_24, e134_25, e134_26, e134_27, e134_30, e134_33, e134_34, e134_35, e134_36, e134_39, e134_40, e134_41, e134_44, e134_45, e134_46, e134_47, e134_48, e134_51, e134_52, e134_53, e134_54, e134_55, e134_58, e134_59, e134_60, e134_61, e134_62, e134_63, e134_64, e134_65, J_add, J_sub, J_mul, J_neg, J_lt, J_le, J_eq, gArr_J, gAst_J, gSiz_J, gFld_o, gUpd_o0, gUpd_o1, gUpd_o2, gUpd_o3, gUpd_o4, gUpd_o5, gUpd_o6, gUpd_o7, gUpd_o8, gUpd_o9, gUpd_o10, gUpd_o11, gUpd_o12, gUpd_o13, gUpd_o14, gUpd_o15, gUpd_o16, gUpd_o17, gUpd_o18, gIsO_o, Option.bind_some, List.getElem?_cons_zero, List.getElem?_cons_succ, List.length_cons, List.length_nil, List.set_cons_zero, List.set_cons_succ, gCat_nil, gCat_int, gCat_ref, if_pos, if_neg, Option.toList_some, Option.toList_none, List.cons_append, List.nil_append, B_nar, J1_nar, J0_nar, if_true, if_false, rd_wr_same, rd_wr_ne, true_and, and_true, B_0, B_1, not_true_eq_false, not_false_eq_true, rdM0, rdM1, rdM2, rdM3, rdM4, rdM5, rdM6, rdM7, rdM8, rdM9, rdM10, rdM11, rdM12, rset_at, rset_ne, rset_rset, w0M, wZ1, wZ2, wZ3, wZ4, wZ5, wZ6, wZ7, wZ8, wZ9, wZ10, wZ11, wZ12, f7_0, f7_1, f7_2, f7_3, f7_4, f7_5, f7_6, rst00, rst01, rst02, rst03, rst04, rst05, rst06, rst_1, rst_2, rst_3, rst_4, rst_w0, rst_w2, rst_w3, rst_w4, f0, f1, f2, f4, c1, d0]
    case pos =>
      rw [B_pos q0] at d0
      refine it_t (K1 := addR K (R2 0)) hn (by rw [tki_r, if_pos (by omega)]) ⟨R1, fset (fset L (5 + K 0 4) (R1 0)) 4 (K 0 4 + 1), P, ?_, ?_, ?_⟩
      ·
        have e4 : (fset L (5 + K 0 4) (R1 0)) 4 = K 0 4 := by rw [fset_ne (by omega)]; exact f4
        simp (disch := first | omega | exact Nat.le_of_ble_eq_true rfl) only [e134_0, e134_1, e134_4, e134_5, e134_6, e134_8, e134_11, e134_12, e134_13, e134_16, e134_19, e134_20, e134_23, e134_24, e134_25, e134_26, e134_27, e134_30, e134_33, e134_34, e134_35, e134_36, e134_39, e134_40, e134_41, e134_44, e134_45, e134_46, e134_47, e134_48, e134_51, e134_52, e134_53, e134_54, e134_55, e134_58, e134_59, e134_60, e134_61, e134_62, e134_63, e134_64, e134_65, J_add, J_sub, J_mul, J_neg, J_lt, J_le, J_eq, gArr_J, gAst_J, gSiz_J, gFld_o, gUpd_o0, gUpd_o1, gUpd_o2, gUpd_o3, gUpd_o4, gUpd_o5, gUpd_o6, gUpd_o7, gUpd_o8, gUpd_o9, gUpd_o10, gUpd_o11, gUpd_o12, gUpd_o13, gUpd_o14, gUpd_o15, gUpd_o16, gUpd_o17, gUpd_o18, gIsO_o, Option.bind_some, List.getElem?_cons_zero, List.getElem?_cons_succ, List.length_cons, List.length_nil, List.set_cons_zero, List.set_cons_succ, gCat_nil, gCat_int, gCat_ref, if_pos, if_neg, Option.toList_some, Option.toList_none, List.cons_append, List.nil_append, B_nar, J1_nar, J0_nar, if_true, if_false, rd_wr_same, rd_wr_ne, true_and, and_true, B_0, B_1, not_true_eq_false, not_false_eq_true, rdM0, rdM1, rdM2, rdM3, rdM4, rdM5, rdM6, rdM7, rdM8, rdM9, rdM10, rdM11, rdM12, rset_at, rset_ne, rset_rset, w0M, wZ1, wZ2, wZ3, wZ4, wZ5, wZ6, wZ7, wZ8, wZ9, wZ10, wZ11, wZ12, f7_0, f7_1, f7_2, f7_3, f7_4, f7_5, f7_6, rst00, rst01, rst02, rst03, rst04, rst05, rst06, rst_1, rst_2, rst_3, rst_4, rst_w0, rst_w2, rst_w3, rst_w4, f0, f1, f2, f4, c1, e4, d0]
      · rw [← r0]
        refine ⟨?_, ?_, ?_, ?_, ?_, fun r z1 z2 => ?_, fun g i z1 z2 z3 z4 => ?_, fun y z1 z2 => ?_⟩
        · rw [fset_ne (by decide), fset_ne (by omega), addR_0, fset_ne (by decide)]
          exact f0
        · rw [fset_ne (by decide), fset_ne (by omega), addR_0, fset_ne (by decide)]
          exact f1
        · rw [fset_ne (by decide), fset_ne (by omega), addR_0, fset_ne (by decide)]
          exact f2
        · rw [fset_ne (by decide), fset_ne (by omega), addR_0, fset_ne (by decide)]
          exact f3
        · rw [fset_at, addR_0, fset_at]
        · rw [addR_0, fset_at] at z2
          rw [fset_ne (by omega), addR_3]
          by_cases z : r = K 0 4
          · rw [z, fset_at, fset_at]
          · rw [fset_ne (by omega), fset_ne z]
            exact fr r z1 (by omega)
        · rw [addR_0, fset_ne (by decide)] at z2
          rw [fset_ne (by omega), fset_ne (by omega), addR_n (by decide)]
          exact fg g i z1 z2 z3 z4
        · rw [addR_0, fset_ne (by decide)] at z2
          rw [fset_ne (by omega), fset_ne (by omega), fset_ne (by omega), fset_ne (by omega), addR_n (by decide)]
          exact fd y z1 z2
      · obtain ⟨p1, p2, p3⟩ := hP
        refine ⟨p1, p2, fun y z1 z2 => ?_⟩
        rw [addR_0, fset_ne (by decide)] at z2
        rw [addR_n (by decide)]
        exact p3 y z1 z2

theorem i132 {nat : gNat} {d : Nat} {w : gWd} {x : Nat} {M : Lay} (hx : x + 12 < gSTR) (h0 : 0 ≤ M 0 0 ∧ M 0 0 ≤ 200) {t : Int → Int} (ht : ∀ i, 0 ≤ i → ltr (M 1) (M 0 0) i = t i) (htb : ∀ i, 0 ≤ i → 0 ≤ t i ∧ t i < 128) {K : Lay} (hK : vK K) {b p : Int} {N L P : Int → Int} (hb : b = 0 ∨ b = 1) (hp : 0 ≤ p ∧ p ≤ 201) (hL : mLaw K L) (hP : mNow K P) : itR t p 100 K (1 - b) (fun q K' => ∃ N' L' P', gC nat (d + 4) 132 [.ref x] (putM w x (rst M p b N L P)) = some (some (.int (J 1)), putM w x (rst M q b N' L' P')) ∧ mLaw K' L' ∧ mNow K' P') (∃ p' N' L' P', gC nat (d + 4) 132 [.ref x] (putM w x (rst M p b N L P)) = some (some (.int (J 0)), putM w x (rst M p' b N' L' P'))) := by
  obtain ⟨f0, f1, f2, f3, f4, fr, fg, fd⟩ := id hL
  obtain ⟨k0, k1, k2, k3, k4, kg, kd, kr⟩ := id hK
  have c1 := s129 (nat := nat) (d := d) (w := w) (b := b) (N := N) (L := L) (P := P) hx h0 ht htb (k := 3) (by omega) hp
  rw [show ((3 : Nat) : Int) = 3 from rfl] at c1
  have hr : (∀ q R1, rn t 3 3 0 p N = (true, q, R1) → ∃ R2, nums t 5 0 p (fun _ => 0) = some (3, q, R2) ∧ ∀ y, 0 ≤ y → y < 3 → R1 y = R2 y) ∧ ((rn t 3 3 0 p N).1 = false → ∀ q R, nums t 5 0 p (fun _ => 0) ≠ some (3, q, R)) := rn_nums t 3 2 2 0 p N (fun _ => 0) (by omega) (fun y y1 y2 => by omega)
  rw [en132]
  by_cases hg : K 0 2 < 4
  case neg =>
    refine it_v (fun a R => by rw [tki_d, if_neg (fun z => hg z.2.1)]) ⟨p, N, L, P, ?_⟩
    simp (disch := first | omega | exact Nat.le_of_ble_eq_true rfl) only [e132_0, e132_1, e132_4, e132_5, e132_6, e132_7, e132_8, e132_9, e132_12, e132_13, e132_14, e132_17, e132_20, e132_21, e132_24, e132_25, e132_26, e132_27, e132_28, e132_31, e132_34, e132_35, e132_38, e132_39, e132_40, e132_41, e132_43, e132_46, e132_49, e132_50, e132_53, e132_54, e132_55, e132_56, e132_58, e132_61, e132_64, e132_65, e132_68, e132_69, e132_70, e132_71, e132_74, e132_75, e132_78, e132_80, e132_81, e132_82, e132_83, e132_84, e132_85, e132_88, e132_89, e132_90, e132_91, e132_92, e132_95, e132_97, e132_98, e132_99, e132_100, e132_101, e132_102, e132_103, e132_104, e132_107, e132_108, e132_109, e132_110, e132_111, e132_114, e132_116, e132_117, e132_118, e132_119, e132_122, e132_123, e132_124, e132_125, e132_126, e132_129, e132_130, e132_131, e132_132, e132_133, e132_134, e132_135, e132_136, J_add, J_sub, J_mul, J_neg, J_lt, J_le, J_eq, gArr_J, gAst_J, gSiz_J, gFld_o, gUpd_o0, gUpd_o1, gUpd_o2, gUpd_o3, gUpd_o4, gUpd_o5, gUpd_o6, gUpd_o7, gUpd_o8, gUpd_o9, gUpd_o10, gUpd_o11, gUpd_o12, gUpd_o13, gUpd_o14, gUpd_o15, gUpd_o16, gUpd_o17, gUpd_o18, gIsO_o, Option.bind_some, List.getElem?_cons_zero, List.getElem?_cons_succ, List.length_cons, List.length_nil, List.set_cons_zero, List.set_cons_succ, gCat_nil, gCat_int, gCat_ref, if_pos, if_neg, Option.toList_some, Option.toList_none, List.cons_append, List.nil_append, B_nar, J1_nar, J0_nar, if_true, if_false, rd_wr_same, rd_wr_ne, true_and, and_true, B_0, B_1, not_true_eq_false, not_false_eq_true, rdM0, rdM1, rdM2, rdM3, rdM4, rdM5, rdM6, rdM7, rdM8, rdM9, rdM10, rdM11, rdM12, rset_at, rset_ne, rset_rset, w0M, wZ1, wZ2, wZ3, wZ4, wZ5, wZ6, wZ7, wZ8, wZ9, wZ10, wZ11, wZ12, f7_0, f7_1, f7_2, f7_3, f7_4, f7_5, f7_6, rst00, rst01, rst02, rst03, rst04, rst05, rst06, rst_1, rst_2, rst_3, rst_4, rst_w0, rst_w2, rst_w3, rst_w4, f1, f2, f4]
  rcases hrn : rn t 3 3 0 p N with ⟨bb, q, R1⟩
  rw [hrn] at c1 hr
  dsimp only at c1 hr
  cases bb
  case false =>
    rw [if_neg (by decide)] at c1
    refine it_f (hr.2 rfl) (fun a R K' h => ?_) ⟨q, R1, L, P, ?_⟩
    · rw [tki_d] at h
      split at h
      · rename_i z
        exact z.1
      · exact absurd h (by simp)
    ·
      simp (disch := first | omega | exact Nat.le_of_ble_eq_true rfl) only [e132_0, e132_1, e132_4, e132_5, e132_6, e132_7, e132_8, e132_9, e132_12, e132_13, e132_14, e132_17, e132_20, e132_21, e132_24, e132_25, e132_26, e132_27, e132_28, e132_31, e132_34, e132_35, e132_38, e132_39, e132_40, e132_41, e132_43, e132_46, e132_49, e132_50, e132_53, e132_54, e132_55, e132_56, e132_58, e132_61, e132_64, e132_65, e132_68, e132_69, e132_70, e132_71, e132_74, e132_75, e132_78, e132_80, e132_81, e132_82, e132_83, e132_84, e132_85, e132_88, e132_89, e132_90, e132_91, e132_92, e132_95, e132_97, e132_98, e132_99, e132_100, e132_101, e132_102, e132_103, e132_104, e132_107, e132_108, e132_109, e132_110, e132_111, e132_114, e132_116, e132_117, e132_118, e132_119, e132_122, e132_123, e132_124, e132_125, e132_126, e132_129, e132_130, e132_131, e132_132, e132_133, e132_134, e132_135, e132_136, J_add, J_sub, J_mul, J_neg, J_lt, J_le, J_eq, gArr_J, gAst_J, gSiz_J, gFld_o, gUpd_o0, gUpd_o1, gUpd_o2, gUpd_o3, gUpd_o4, gUpd_o5, gUpd_o6, gUpd_o7, gUpd_o8, gUpd_o9, gUpd_o10, gUpd_o11, gUpd_o12, gUpd_o13, gUpd_o14, gUpd_o15, gUpd_o16, gUpd_o17, gUpd_o18, gIsO_o, Option.bind_some, List.getElem?_cons_zero, List.getElem?_cons_succ, List.length_cons, List.length_nil, List.set_cons_zero, List.set_cons_succ, gCat_nil, gCat_int, gCat_ref, if_pos, if_neg, Option.toList_some, Option.toList_none, List.cons_append, List.nil_append, B_nar, J1_nar, J0_nar, if_true, if_false, rd_wr_same, rd_wr_ne, true_and, and_true, B_0, B_1, not_true_eq_false, not_false_eq_true, rdM0, rdM1, rdM2, rdM3, rdM4, rdM5, rdM6, rdM7, rdM8, rdM9, rdM10, rdM11, rdM12, rset_at, rset_ne, rset_rset, w0M, wZ1, wZ2, wZ3, wZ4, wZ5, wZ6, wZ7, wZ8, wZ9, wZ10, wZ11, wZ12, f7_0, f7_1, f7_2, f7_3, f7_4, f7_5, f7_6, rst00, rst01, rst02, rst03, rst04, rst05, rst06, rst_1, rst_2, rst_3, rst_4, rst_w0, rst_w2, rst_w3, rst_w4, f0, f1, f2, f4, c1]
  case true =>
    rw [if_pos rfl] at c1
    obtain ⟨R2, hn, hR⟩ := hr.1 q R1 rfl
    have hin := nums_in _ _ _ _ _ _ _ _ hn
    have r0 := hR 0 (by omega) (by omega)
    have v0 := hin.2.2.2.2.1 0 (by omega) (by omega)
    have r1 := hR 1 (by omega) (by omega)
    have v1 := hin.2.2.2.2.1 1 (by omega) (by omega)
    have r2 := hR 2 (by omega) (by omega)
    have v2 := hin.2.2.2.2.1 2 (by omega) (by omega)
    have d0 := s122 (nat := nat) (d := d + 2) (w := putM w x (rst M q b R1 L P)) (v := R1 0) (l := 0) (h := 3) (by omega) (by omega) (by omega)
    have d1 := s122 (nat := nat) (d := d + 2) (w := putM w x (rst M q b R1 L P)) (v := R1 1) (l := 0) (h := 40) (by omega) (by omega) (by omega)
    have d2 := s122 (nat := nat) (d := d + 2) (w := putM w x (rst M q b R1 L P)) (v := R1 2) (l := 1) (h := 9) (by omega) (by omega) (by omega)
    by_cases q0 : 0 ≤ R1 0 ∧ R1 0 ≤ 3
    case neg =>
      rw [B_neg q0] at d0
      refine it_n hn (by rw [tki_d, if_neg (fun z => q0 (by omega))]) ⟨q, R1, L, P, ?_⟩
      simp (disch := first | omega | exact Nat.le_of_ble_eq_true rfl) only [e132_0, e132_1, e132_4, e132_5, e132_6, e132_7, e132_8, e132_9, e132_12, e132_13, e132_14, e132_17, e132_20, e132_21, e132_24, e132_25, e132_26, e132_27, e132_28, e132_31, e132_34, e132_35, e132_38, e132_39, e132_40, e132_41, e132_43, e132_46, e132_49, e132_50, e132_53, e132_54, e132_55, e132_56, e132_58, e132_61, e132_64, e132_65, e132_68, e132_69, e132_70, e132_71, e132_74, e132_75, e132_78, e132_80, e132_81, e132_82, e132_83, e132_84, e132_85, e132_88, e132_89, e132_90, e132_91, e132_92, e132_95, e132_97, e132_98, e132_99, e132_100, e132_101, e132_102, e132_103, e132_104, e132_107, e132_108, e132_109, e132_110, e132_111, e132_114, e132_116, e132_117, e132_118, e132_119, e132_122, e132_123, e132_124, e132_125, e132_126, e132_129, e132_130, e132_131, e132_132, e132_133, e132_134, e132_135, e132_136, J_add, J_sub, J_mul, J_neg, J_lt, J_le, J_eq, gArr_J, gAst_J, gSiz_J, gFld_o, gUpd_o0, gUpd_o1, gUpd_o2, gUpd_o3, gUpd_o4, gUpd_o5, gUpd_o6, gUpd_o7, gUpd_o8, gUpd_o9, gUpd_o10, gUpd_o11, gUpd_o12, gUpd_o13, gUpd_o14, gUpd_o15, gUpd_o16, gUpd_o17, gUpd_o18, gIsO_o, Option.bind_some, List.getElem?_cons_zero, List.getElem?_cons_succ, List.length_cons, List.length_nil, List.set_cons_zero, List.set_cons_succ, gCat_nil, gCat_int, gCat_ref, if_pos, if_neg, Option.toList_some, Option.toList_none, List.cons_append, List.nil_append, B_nar, J1_nar, J0_nar, if_true, if_false, rd_wr_same, rd_wr_ne, true_and, and_true, B_0, B_1, not_true_eq_false, not_false_eq_true, rdM0, rdM1, rdM2, rdM3, rdM4, rdM5, rdM6, rdM7, rdM8, rdM9, rdM10, rdM11, rdM12, rset_at, rset_ne, rset_rset, w0M, wZ1, wZ2, wZ3, wZ4, wZ5, wZ6, wZ7, wZ8, wZ9, wZ10, wZ11, wZ12, f7_0, f7_1, f7_2, f7_3, f7_4, f7_5, f7_6, rst00, rst01, rst02, rst03, rst04, rst05, rst06, rst_1, rst_2, rst_3, rst_4, rst_w0, rst_w2, rst_w3, rst_w4, f0, f1, f2, f4, c1, d0]
    case pos =>
      rw [B_pos q0] at d0
      by_cases q1 : 0 ≤ R1 1 ∧ R1 1 ≤ 40
      case neg =>
        rw [B_neg q1] at d1
        refine it_n hn (by rw [tki_d, if_neg (fun z => q1 (by omega))]) ⟨q, R1, L, P, ?_⟩
        simp (disch := first | omega | exact Nat.le_of_ble_eq_true rfl) only [e132_0, e132_1, e132_4, e132_5, e132_6, e132_7, e132_8, e132_9, e132_12, e132_13, e132_14, e132_17, e132_20, e132_21, e132_24, e132_25, e132_26, e132_27, e132_28, e132_31, e132_34, e132_35, e132_38, e132_39, e132_40, e132_41, e132_43, e132_46, e132_49, e132_50, e132_53, e132_54, e132_55, e132_56, e132_58, e132_61, e132_64, e132_65, e132_68, e132_69, e132_70, e132_71, e132_74, e132_75, e132_78, e132_80, e132_81, e132_82, e132_83, e132_84, e132_85, e132_88, e132_89, e132_90, e132_91, e132_92, e132_95, e132_97, e132_98, e132_99, e132_100, e132_101, e132_102, e132_103, e132_104, e132_107, e132_108, e132_109, e132_110, e132_111, e132_114, e132_116, e132_117, e132_118, e132_119, e132_122, e132_123, e132_124, e132_125, e132_126, e132_129, e132_130, e132_131, e132_132, e132_133, e132_134, e132_135, e132_136, J_add, J_sub, J_mul, J_neg, J_lt, J_le, J_eq, gArr_J, gAst_J, gSiz_J, gFld_o, gUpd_o0, gUpd_o1, gUpd_o2, gUpd_o3, gUpd_o4, gUpd_o5, gUpd_o6, gUpd_o7, gUpd_o8, gUpd_o9, gUpd_o10, gUpd_o11, gUpd_o12, gUpd_o13, gUpd_o14, gUpd_o15, gUpd_o16, gUpd_o17, gUpd_o18, gIsO_o, Option.bind_some, List.getElem?_cons_zero, List.getElem?_cons_succ, List.length_cons, List.length_nil, List.set_cons_zero, List.set_cons_succ, gCat_nil, gCat_int, gCat_ref, if_pos, if_neg, Option.toList_some, Option.toList_none, List.cons_append, List.nil_append, B_nar, J1_nar, J0_nar, if_true, if_false, rd_wr_same, rd_wr_ne, true_and, and_true, B_0, B_1, not_true_eq_false, not_false_eq_true, rdM0, rdM1, rdM2, rdM3, rdM4, rdM5, rdM6, rdM7, rdM8, rdM9, rdM10, rdM11, rdM12, rset_at, rset_ne, rset_rset, w0M, wZ1, wZ2, wZ3, wZ4, wZ5, wZ6, wZ7, wZ8, wZ9, wZ10, wZ11, wZ12, f7_0, f7_1, f7_2, f7_3, f7_4, f7_5, f7_6, rst00, rst01, rst02, rst03, rst04, rst05, rst06, rst_1, rst_2, rst_3, rst_4, rst_w0, rst_w2, rst_w3, rst_w4, f0, f1, f2, f4, c1, d0, d1]
      case pos =>
        rw [B_pos q1] at d1
        by_cases q2 : 1 ≤ R1 2 ∧ R1 2 ≤ 9
        case neg =>
          rw [B_neg q2] at d2
          refine it_n hn (by rw [tki_d, if_neg (fun z => q2 (by omega))]) ⟨q, R1, L, P, ?_⟩
          simp (disch := first | omega | exact Nat.le_of_ble_eq_true rfl) only [e132_0, e132_1, e132_4, e132_5, e132_6, e132_7, e132_8, e132_9, e132_12, e132_13, e132_14, e132_17, e132_20, e132_21, e132_24, e132_25, e132_26, e132_27, e132_28, e132_31, e132_34, e132_35, e132_38, e132_39, e132_40, e132_41, e132_43, e132_46, e132_49, e132_50, e132_53, e132_54, e132_55, e132_56, e132_58, e132_61, e132_64, e132_65, e132_68, e132_69, e132_70, e132_71, e132_74, e132_75, e132_78, e132_80, e132_81, e132_82, e132_83, e132_84, e132_85, e132_88, e132_89, e132_90, e132_91, e132_92, e132_95, e132_97, e132_98, e132_99, e132_100, e132_101, e132_102, e132_103, e132_104, e132_107, e132_108, e132_109, e132_110, e132_111, e132_114, e132_116, e132_117, e132_118, e132_119, e132_122, e132_123, e132_124, e132_125, e132_126, e132_129, e132_130, e132_131, e132_132, e132_133, e132_134, e132_135, e132_136, J_add, J_sub, J_mul, J_neg, J_lt, J_le, J_eq, gArr_J, gAst_J, gSiz_J, gFld_o, gUpd_o0, gUpd_o1, gUpd_o2, gUpd_o3, gUpd_o4, gUpd_o5, gUpd_o6, gUpd_o7, gUpd_o8, gUpd_o9, gUpd_o10, gUpd_o11, gUpd_o12, gUpd_o13, gUpd_o14, gUpd_o15, gUpd_o16, gUpd_o17, gUpd_o18, gIsO_o, Option.bind_some, List.getElem?_cons_zero, List.getElem?_cons_succ, List.length_cons, List.length_nil, List.set_cons_zero, List.set_cons_succ, gCat_nil, gCat_int, gCat_ref, if_pos, if_neg, Option.toList_some, Option.toList_none, List.cons_append, List.nil_append, B_nar, J1_nar, J0_nar, if_true, if_false, rd_wr_same, rd_wr_ne, true_and, and_true, B_0, B_1, not_true_eq_false, not_false_eq_true, rdM0, rdM1, rdM2, rdM3, rdM4, rdM5, rdM6, rdM7, rdM8, rdM9, rdM10, rdM11, rdM12, rset_at, rset_ne, rset_rset, w0M, wZ1, wZ2, wZ3, wZ4, wZ5, wZ6, wZ7, wZ8, wZ9, wZ10, wZ11, wZ12, f7_0, f7_1, f7_2, f7_3, f7_4, f7_5, f7_6, rst00, rst01, rst02, rst03, rst04, rst05, rst06, rst_1, rst_2, rst_3, rst_4, rst_w0, rst_w2, rst_w3, rst_w4, f0, f1, f2, f4, c1, d0, d1, d2]
        case pos =>
          rw [B_pos q2] at d2
          have hA : addD K R2 = addD K R1 := by unfold addD; rw [r0, r1, r2]
          refine it_t (K1 := addD K R1) hn (by rw [tki_d, if_pos (by omega), hA]) ⟨R1, fset (fset (fset L (57 + 2 * K 0 2) (R1 0)) (57 + 2 * K 0 2 + 1) (R1 2)) 2 (K 0 2 + 1), fset P (9 + K 0 2) (R1 1), ?_, ?_, ?_⟩
          ·
            have e2 : (fset (fset L (57 + 2 * K 0 2) (R1 0)) (57 + 2 * K 0 2 + 1) (R1 2)) 2 = K 0 2 := by rw [fset_ne (by omega), fset_ne (by omega)]; exact f2
            simp (disch := first | omega | exact Nat.le_of_ble_eq_true rfl) only [e132_0, e132_1, e132_4, e132_5, e132_6, e132_7, e132_8, e132_9, e132_12, e132_13, e132_14, e132_17, e132_20, e132_21, e132_24, e132_25, e132_26, e132_27, e132_28, e132_31, e132_34, e132_35, e132_38, e132_39, e132_40, e132_41, e132_43, e132_46, e132_49, e132_50, e132_53, e132_54, e132_55, e132_56, e132_58, e132_61, e132_64, e132_65, e132_68, e132_69, e132_70, e132_71, e132_74, e132_75, e132_78, e132_80, e132_81, e132_82, e132_83, e132_84, e132_85, e132_88, e132_89, e132_90, e132_91, e132_92, e132_95, e132_97, e132_98, e132_99, e132_100, e132_101, e132_102, e132_103, e132_104, e132_107, e132_108, e132_109, e132_110, e132_111, e132_114, e132_116, e132_117, e132_118, e132_119, e132_122, e132_123, e132_124, e132_125, e132_126, e132_129, e132_130, e132_131, e132_132, e132_133, e132_134, e132_135, e132_136, J_add, J_sub, J_mul, J_neg, J_lt, J_le, J_eq, gArr_J, gAst_J, gSiz_J, gFld_o, gUpd_o0, gUpd_o1, gUpd_o2, gUpd_o3, gUpd_o4, gUpd_o5, gUpd_o6, gUpd_o7, gUpd_o8, gUpd_o9, gUpd_o10, gUpd_o11, gUpd_o12, gUpd_o13, gUpd_o14, gUpd_o15, gUpd_o16, gUpd_o17, gUpd_o18, gIsO_o, Option.bind_some, List.getElem?_cons_zero, List.getElem?_cons_succ, List.length_cons, List.length_nil, List.set_cons_zero, List.set_cons_succ, gCat_nil, gCat_int, gCat_ref, if_pos, if_neg, Option.toList_some, Option.toList_none, List.cons_append, List.nil_append, B_nar, J1_nar, J0_nar, if_true, if_false, rd_wr_same, rd_wr_ne, true_and, and_true, B_0, B_1, not_true_eq_false, not_false_eq_true, rdM0, rdM1, rdM2, rdM3, rdM4, rdM5, rdM6, rdM7, rdM8, rdM9, rdM10, rdM11, rdM12, rset_at, rset_ne, rset_rset, w0M, wZ1, wZ2, wZ3, wZ4, wZ5, wZ6, wZ7, wZ8, wZ9, wZ10, wZ11, wZ12, f7_0, f7_1, f7_2, f7_3, f7_4, f7_5, f7_6, rst00, rst01, rst02, rst03, rst04, rst05, rst06, rst_1, rst_2, rst_3, rst_4, rst_w0, rst_w2, rst_w3, rst_w4, f0, f1, f2, f4, c1, e2, d0, d1, d2]
          · refine ⟨?_, ?_, ?_, ?_, ?_, fun r z1 z2 => ?_, fun g i z1 z2 z3 z4 => ?_, fun y z1 z2 => ?_⟩
            · rw [fset_ne (by decide), fset_ne (by omega), fset_ne (by omega), addD_0, fset_ne (by decide)]
              exact f0
            · rw [fset_ne (by decide), fset_ne (by omega), fset_ne (by omega), addD_0, fset_ne (by decide)]
              exact f1
            · rw [fset_at, addD_0, fset_at]
            · rw [fset_ne (by decide), fset_ne (by omega), fset_ne (by omega), addD_0, fset_ne (by decide)]
              exact f3
            · rw [fset_ne (by decide), fset_ne (by omega), fset_ne (by omega), addD_0, fset_ne (by decide)]
              exact f4
            · rw [addD_0, fset_ne (by decide)] at z2
              rw [fset_ne (by omega), fset_ne (by omega), fset_ne (by omega), addD_n (by decide)]
              exact fr r z1 z2
            · rw [addD_0, fset_ne (by decide)] at z2
              rw [fset_ne (by omega), fset_ne (by omega), fset_ne (by omega), addD_n (by decide)]
              exact fg g i z1 z2 z3 z4
            · rw [addD_0, fset_at] at z2
              rw [fset_ne (by omega), fset_ne (show 57 + 2 * y + 1 ≠ 2 by omega), addD_2, addD_2]
              by_cases z : y = K 0 2
              · rw [if_neg (by omega), if_neg (by omega), if_pos (by omega), if_pos (by omega), z, fset_ne (by omega), fset_at, fset_at]
                exact ⟨rfl, rfl⟩
              · rw [if_neg (by omega), if_neg (by omega), if_neg (by omega), if_neg (by omega), if_neg (by omega), if_neg (by omega), fset_ne (by omega), fset_ne (by omega), fset_ne (by omega), fset_ne (by omega)]
                exact fd y z1 (by omega)
          · obtain ⟨p1, p2, p3⟩ := hP
            refine ⟨by rw [fset_ne (by omega)]; exact p1, fun g g1 g2 => by rw [fset_ne (by omega)]; exact p2 g g1 g2, fun y z1 z2 => ?_⟩
            rw [addD_0, fset_at] at z2
            rw [addD_2]
            by_cases z : y = K 0 2
            · rw [if_neg (by omega), if_pos (by omega), z, fset_at]
            · rw [if_neg (by omega), if_neg (by omega), if_neg (by omega), fset_ne (by omega)]
              exact p3 y z1 (by omega)
