theorem isRo_self {w : gWd} {x : Nat} {b : Int × Int × (Int → Int)} {se li : Int} {R : Int → Int} {Ts : Nat → Lay} (h : isRo w x b se li R Ts) : w = putW w x b.1 b.2.1 se li b.2.2 R := putW_rd rfl h.2.1 h.2.2.1 h.2.2.2.1 (fun _ _ => rfl)
theorem isRo_upd {w : gWd} {x : Nat} {b b' : Int × Int × (Int → Int)} {se li se' li' : Int} {R R' : Int → Int} {Ts : Nat → Lay} (h : isRo w x b se li R Ts) : isRo (putW w x b'.1 b'.2.1 se' li' b'.2.2 R') x b' se' li' R' Ts := by
  obtain ⟨h0, h1, h2, h3, h4, h5⟩ := h
  refine ⟨h0, rdW0, rdW1, rdW2, by rw [rdWn (by omega)]; exact h4, fun i hi => ?_⟩
  obtain ⟨⟨a0, a1, a2, a3, a4⟩, hn⟩ := h5 i hi
  exact ⟨⟨a0, by rw [rdWn (by omega)]; exact a1, by rw [rdWn (by omega)]; exact a2, by rw [rdWn (by omega)]; exact a3, by rw [rdWn (by omega)]; exact a4⟩, hn⟩
theorem isRo_put {w : gWd} {x : Nat} {b : Int × Int × (Int → Int)} {se li : Int} {R : Int → Int} {Ts : Nat → Lay} (h : isRo w x b se li R Ts) {k : Nat} (hk : k < 4) {S : Lay} (hS : nS S) : isRo (putS w (x + 4 + 4 * k) S) x b se li R (fun i => if i = k then S else Ts i) := by
  obtain ⟨h0, h1, h2, h3, h4, h5⟩ := h
  refine ⟨h0, by rw [rd_putS (by omega)]; exact h1, by rw [rd_putS (by omega)]; exact h2, by rw [rd_putS (by omega)]; exact h3, by rw [rd_putS (by omega)]; exact h4, fun i hi => ?_⟩
  by_cases e : i = k
  · subst e
    simp only [if_true]
    exact ⟨isSt_putS (by omega), hS⟩
  · simp only [if_neg e]
    obtain ⟨a, hn⟩ := h5 i hi
    exact ⟨isSt_off (by unfold off; omega) a, hn⟩
theorem isMe_fr {w w' : gWd} {m : Nat} {K : Lay} (h : isMe w m K) (hf : ∀ q, m ≤ q → q ≤ m + 3 → rd w' q = rd w q) : isMe w' m K := by
  obtain ⟨h0, h1, h2, h3, h4⟩ := h
  exact ⟨h0, by rw [hf _ (by omega) (by omega)]; exact h1, by rw [hf _ (by omega) (by omega)]; exact h2, by rw [hf _ (by omega) (by omega)]; exact h3, by rw [hf _ (by omega) (by omega)]; exact h4⟩
theorem isSt_fr {w w' : gWd} {m : Nat} {K : Lay} (h : isSt w m K) (hf : ∀ q, m ≤ q → q ≤ m + 3 → rd w' q = rd w q) : isSt w' m K := by
  obtain ⟨h0, h1, h2, h3, h4⟩ := h
  exact ⟨h0, by rw [hf _ (by omega) (by omega)]; exact h1, by rw [hf _ (by omega) (by omega)]; exact h2, by rw [hf _ (by omega) (by omega)]; exact h3, by rw [hf _ (by omega) (by omega)]; exact h4⟩
theorem note_congr {b : Int × Int × (Int → Int)} {len hours : Int} {R R2 : Int → Int} (h : ∀ i, 0 ≤ i → i < len → R i = R2 i) : note b len hours R = note b len hours R2 := by
  unfold note
  split
  · rfl
  · congr 2
    funext i
    by_cases hi : 0 ≤ i ∧ i < len
    · rw [if_pos hi, if_pos hi, h i hi.1 hi.2]
    · rw [if_neg hi, if_neg hi]
theorem rng_congr {α : Type} {f g : Nat → α → α} : ∀ (n : Nat) (a : α), (∀ k a, k < n → f k a = g k a) → rng f n a = rng g n a := by
  intro n
  induction n with
  | zero => intro a _; rfl
  | succ n ih =>
    intro a h
    rw [rng, rng, ih a (fun k a hk => h k a (by omega)), h n _ (by omega)]
theorem dfs_congr {K : Lay} {se li : Int} : ∀ (k : Nat) (len hours : Int) (S : Lay) (R R2 : Int → Int) (b : Int × Int × (Int → Int)), (∀ i, 0 ≤ i → i < len → R i = R2 i) → dfs K se li k len hours S R b = dfs K se li k len hours S R2 b := by
  intro k
  induction k with
  | zero => intro len hours S R R2 b _; rfl
  | succ k ih =>
    intro len hours S R R2 b h
    rw [dfs, dfs]
    refine rng_congr _ _ fun g b _ => ?_
    have e : ∀ i, 0 ≤ i → i < len + 1 → fset R len g i = fset R2 len g i := fun i h1 h2 => by
      by_cases q : i = len
      · rw [q, fset_at, fset_at]
      · rw [fset_ne q, fset_ne q]; exact h i h1 (by omega)
    rw [note_congr e, ih _ _ _ _ _ _ e]
def bOr (b : Int × Int × (Int → Int)) : Prop := (0 ≤ b.1 ∧ b.1 ≤ 3) ∧ (0 ≤ b.2.1 ∧ b.2.1 < 1000)
theorem note_ok {b : Int × Int × (Int → Int)} (hb : bOr b) {len hours : Int} (hl : 0 ≤ len ∧ len ≤ 3) (hh : 0 ≤ hours ∧ hours < 1000) {R : Int → Int} : bOr (note b len hours R) := by
  unfold note
  split
  · exact hb
  · exact ⟨hl, hh⟩
theorem rng_ok {α : Type} {P : α → Prop} {f : Nat → α → α} : ∀ (n : Nat) (a : α), P a → (∀ k a, k < n → P a → P (f k a)) → P (rng f n a) := by
  intro n
  induction n with
  | zero => intro a h _; exact h
  | succ n ih =>
    intro a h hf
    exact hf n _ (by omega) (ih a h (fun k a hk => hf k a (by omega)))
theorem dfs_ok {K : Lay} {se li : Int} (hli : 0 ≤ li ∧ li < 1000) : ∀ (k : Nat) (len hours : Int) (S : Lay) (R : Int → Int) (b : Int × Int × (Int → Int)), len + k = 3 → 0 ≤ len → (0 ≤ hours ∧ hours ≤ li) → bOr b → bOr (dfs K se li k len hours S R b) := by
  intro k
  induction k with
  | zero => intro len hours S R b _ _ _ hb; exact hb
  | succ k ih =>
    intro len hours S R b h0 h1 h2 hb
    rw [dfs]
    refine rng_ok _ _ hb fun g b _ hb => ?_
    split
    · exact hb
    split
    · exact hb
    · rename_i hc
      obtain ⟨c1, c2⟩ := cfr_in K (sset S 2 se g) g (li - hours).toNat 0
      have c3 := c2.resolve_left hc
      exact ih _ _ _ _ _ (by omega) (by omega) (by omega) (note_ok hb (by omega) (by omega))

theorem vS_aim {K S : Lay} (hK : vK K) (hS : vS K S) {x g : Int} (hx : 0 ≤ x ∧ x < K 0 2) (hg : g = -4 ∨ (0 ≤ g ∧ g < K 0 1 ∧ S 1 g < K 1 (5 * g + 4))) : vS K (sset S 2 x g) := by
  obtain ⟨s0, s1, s2, s3⟩ := hS
  refine ⟨by rw [sset_row (by decide)]; exact s0, by rw [sset_row (by decide)]; exact s1, fun y h1 h2 => ?_, by rw [sset_row (by decide)]; exact s3⟩
  rw [sset_row (b := 1) (by decide), sset_fset]
  by_cases q : y = x
  · subst q
    rw [fset_at]
    rcases hg with h | ⟨g1, g2, g3⟩
    · exact Or.inl h
    · exact Or.inr ⟨hx.2, g1, g2, g3⟩
  · rw [fset_ne q]
    exact s2 y h1 h2
theorem s38 {nat : gNat} {d : Nat} {x m : Nat} {K : Lay} {se li : Int} (hK : vK K) (hse : 0 ≤ se ∧ se < K 0 2) (hli : 0 ≤ li ∧ li ≤ 24) (hmx : m + 3 < x ∨ x + 20 < m) {k : Nat} (ih : ∀ (w : gWd) (len hours : Int) (b : (Int × Int × (Int → Int))) (R : Int → Int) (Ts : Nat → Lay), len + (k : Nat) = 3 → 0 ≤ len → (0 ≤ hours ∧ hours ≤ li) → isRo w x b se li R Ts → isMe w m K → bOr b → vS K (Ts len.toNat) → (Ts len.toNat) 0 0 + (li - hours) < 1000000000 → ∃ w' R' Ts', gC nat (d + 7) 37 [.ref x, .ref m, .int (J len), .int (J hours)] w = some (none, w') ∧ isRo w' x (dfs K se li k len hours (Ts len.toNat) R b) se li R' Ts' ∧ (∀ i, 0 ≤ i → i < len → R' i = R i) ∧ (∀ i : Nat, (i : Int) ≤ len → Ts' i = Ts i) ∧ (∀ q, (q < x ∨ x + 20 ≤ q) → rd w' q = rd w q) ∧ w'.2 = w.2) {w : gWd} {len hours : Int} {b : (Int × Int × (Int → Int))} {R : Int → Int} {Ts : Nat → Lay} (h0 : len + (k + 1 : Nat) = 3) (h1 : 0 ≤ len) (h2 : 0 ≤ hours ∧ hours ≤ li) (hx : isRo w x b se li R Ts) (hm : isMe w m K) (hb : bOr b) (hS : vS K (Ts len.toNat)) (hh : (Ts len.toNat) 0 0 + (li - hours) < 1000000000) {g : Int} (hg : 0 ≤ g ∧ g < K 0 1) (hop : (Ts len.toNat) 1 g < K 1 (5 * g + 4)) : ∃ w' R' Ts', gC nat (d + 8) 38 [.ref x, .ref m, .ref (x + 4 + 4 * len.toNat), .int (J g), .int (J len), .int (J hours)] w = some (none, w') ∧ isRo w' x (if (cfr K (sset (Ts len.toNat) 2 se g) g 0 (li - hours).toNat).1 = -4 then b else
      dfs K se li k (len + 1) (hours + (cfr K (sset (Ts len.toNat) 2 se g) g 0 (li - hours).toNat).1) (lives K (sset (Ts len.toNat) 2 se g) (cfr K (sset (Ts len.toNat) 2 se g) g 0 (li - hours).toNat).2) (fset R len g) (note b (len + 1) (hours + (cfr K (sset (Ts len.toNat) 2 se g) g 0 (li - hours).toNat).1) (fset R len g))) se li R' Ts' ∧ (∀ i, 0 ≤ i → i < len → R' i = R i) ∧ (∀ i : Nat, (i : Int) ≤ len → Ts' i = Ts i) ∧ (∀ q, (q < x ∨ x + 20 ≤ q) → rd w' q = rd w q) ∧ w'.2 = w.2 := by
  have hx20 := hx.1
  have k1 := hK.2.1
  have k2 := hK.2.2.1
  have hkk : (len + 1).toNat < 4 := by omega
  have hT := (hx.2.2.2.2.2 len.toNat (by omega))
  have hN := (hx.2.2.2.2.2 (len + 1).toNat hkk)
  have vT := vS_aim hK hS hse (g := g) (Or.inr ⟨hg.1, hg.2, hop⟩)
  have nT : nS (sset (Ts len.toNat) 2 se g) := nS_sset hT.2 (by omega)
  have c1 := s40 (nat := nat) (d := d + 6) hx (i := len + 1) (by omega)
  have c2 := s58w (nat := nat) (d := d + 5) hN.1 hT.1 (by omega) hN.2 hT.2
  have c3 := s66 (nat := nat) (d := d + 5) (w := w) (a := x + 4 + 4 * (len + 1).toNat) (S := Ts len.toNat) (by omega) (x := se) (g := g) (by omega)
  have c4 := s70 (nat := nat) (d := d + 2) (w := w) (a := x + 4 + 4 * (len + 1).toNat) (S := sset (Ts len.toNat) 2 se g) hm hK (by omega) (by omega) vT hg (N := (li - hours).toNat) (by rw [sset_row (by decide)]; omega)
  rw [show (((li - hours).toNat : Nat) : Int) = li - hours by omega] at c4
  obtain ⟨f1, f2⟩ := cfr_in K (sset (Ts len.toNat) 2 se g) g (li - hours).toNat 0
  generalize hc : cfr K (sset (Ts len.toNat) 2 se g) g 0 (li - hours).toNat = c at *
  have nL := nS_lives hK vT nT c.2
  have vL := vS_lives hK vT c.2
  have hr1 := isRo_put hx hkk nL
  have r0 : ∀ S, rd (putS w (x + 4 + 4 * (len + 1).toNat) S) x = oC 4 [.int (J b.1), .int (J b.2.1), .ref (x + 1), .ref (x + 2), .ref (x + 3), .int (J se), .int (J li)] := fun S => by rw [rd_putS (by omega)]; exact hx.2.1
  have r1 := hN.1.2.1
  have r2 : rd w (x + 4 + 4 * len.toNat) = _ := hT.1.2.1
  have r3 : ∀ S, rd (putS w (x + 4 + 4 * (len + 1).toNat) S) m = _ := fun S => (isMe_putS (by unfold off; omega) hm).2.1
  by_cases hq : c.1 = -4
  · rw [if_pos hq]
    rw [hq] at c4
    refine ⟨putS w (x + 4 + 4 * (len + 1).toNat) (lives K (sset (Ts len.toNat) 2 se g) c.2), R, _, ?_, hr1, fun _ _ _ => rfl, fun i hi => if_neg (by omega), fun q hq => rd_putS (by omega), rfl⟩
    rw [en38]
    simp (disch := first | omega | exact Nat.le_of_ble_eq_true rfl) only [e38_0, e38_1, e38_3, e38_4, e38_5, e38_8, e38_10, e38_12, e38_12n, e38_15, e38_16, e38_18, e38_19, e38_22, e38_24, e38_25, e38_28, e38_29, e38_32, e38_34, e38_35, e38_36, e38_37, e38_40, e38_42, e38_43, e38_46, e38_48, e38_50, e38_52, e38_55, e38_56, e38_59, e38_61, e38_62, e38_65, e38_66, e38_68, e38_69, e38_70, e38_72, e38_74, e38_75, e38_78, e38_79, e38_80, e38_82, e38_83, e38_84, e38_86, e38_88, e38_89, e38_92, J_add, J_sub, J_mul, J_neg, J_lt, J_le, J_eq, gArr_J, gAst_J, gSiz_J, gFld_o, gUpd_o0, gUpd_o1, gUpd_o2, gUpd_o3, gUpd_o4, gUpd_o5, gUpd_o6, gUpd_o7, gUpd_o8, gUpd_o9, gUpd_o10, gUpd_o11, gUpd_o12, gUpd_o13, gUpd_o14, gUpd_o15, gUpd_o16, gUpd_o17, gUpd_o18, gIsO_o, Option.bind_some, List.getElem?_cons_zero, List.getElem?_cons_succ, List.length_cons, List.length_nil, List.set_cons_zero, List.set_cons_succ, gCat_nil, gCat_int, gCat_ref, if_pos, if_neg, Option.toList_some, Option.toList_none, List.cons_append, List.nil_append, B_nar, J1_nar, J0_nar, if_true, if_false, rd_wr_same, rd_wr_ne, true_and, and_true, B_0, B_1, not_true_eq_false, not_false_eq_true, c1, c2, c3, c4, r0, r1, r2, r3, rdP0, hx.2.1]
  · rw [if_neg hq]
    have f3 := f2.resolve_left hq
    have hgen : ∀ W, isRo W x b se li R (fun i => if i = (len + 1).toNat then lives K (sset (Ts len.toNat) 2 se g) c.2 else Ts i) → gC nat (d + 7) 118 [.ref (x + 2), .int (J len), .int (J g)] W = some (none, putW W x b.1 b.2.1 se li b.2.2 (fset R len g)) := fun W hW => by
      rw [s118 hW.2.2.2.1 (by omega) (by omega) (by omega)]
      congr 2
      exact putW_rd rfl (by rw [rd_wr_ne (by omega)]; exact hW.2.1) (by rw [rd_wr_ne (by omega)]; exact hW.2.2.1) rd_wr_same (fun q h => rd_wr_ne (by omega))
    have c5 := hgen _ hr1
    have c6 := s39 (nat := nat) (d := d + 5) (w := putS w (x + 4 + 4 * (len + 1).toNat) (lives K (sset (Ts len.toNat) 2 se g) c.2)) (x := x) (mo := b.1) (fe := b.2.1) (se := se) (li := li) (A1 := b.2.2) (A2 := fset R len g) (by omega) (len := len + 1) (hours := hours + c.1) (by omega) hb.1 (by omega) hb.2
    rw [show ((b.1, b.2.1, b.2.2) : Int × Int × (Int → Int)) = b from rfl] at c6
    have hr3 := isRo_upd (b' := note b (len + 1) (hours + c.1) (fset R len g)) (se' := se) (li' := li) (R' := fset R len g) hr1
    have r4 : ∀ mo fe A1 A2, rd (putW (putS w (x + 4 + 4 * (len + 1).toNat) (lives K (sset (Ts len.toNat) 2 se g) c.2)) x mo fe se li A1 A2) x = oC 4 [.int (J mo), .int (J fe), .ref (x + 1), .ref (x + 2), .ref (x + 3), .int (J se), .int (J li)] := fun _ _ _ _ => rdW0
    have e1 : (fun i => if i = (len + 1).toNat then lives K (sset (Ts len.toNat) 2 se g) c.2 else Ts i) (len + 1).toNat = lives K (sset (Ts len.toNat) 2 se g) c.2 := if_pos rfl
    have hme : isMe (putW (putS w (x + 4 + 4 * (len + 1).toNat) (lives K (sset (Ts len.toNat) 2 se g) c.2)) x (note b (len + 1) (hours + c.1) (fset R len g)).1 (note b (len + 1) (hours + c.1) (fset R len g)).2.1 se li (note b (len + 1) (hours + c.1) (fset R len g)).2.2 (fset R len g)) m K := isMe_fr hm (fun q h1 h2 => by rw [rdWn (by omega), rd_putS (by omega)])
    obtain ⟨w', R', Ts', g1, g2, g3, g4, g5, g6⟩ := ih _ (len + 1) (hours + c.1) _ _ _ (by omega) (by omega) (by omega) hr3 hme (note_ok hb (by omega) (by omega)) (by rw [if_pos rfl]; exact vL) (by
      rw [if_pos rfl, lives_h, sset_row (by decide)]
      have := hS.1
      omega)
    rw [if_pos rfl] at g2
    refine ⟨w', R', Ts', ?_, g2, fun i h1 h2 => ?_, fun i hi => ?_, fun q hq => ?_, by rw [g6]; rfl⟩
    · rw [en38]
      simp (disch := first | omega | exact Nat.le_of_ble_eq_true rfl) only [e38_0, e38_1, e38_3, e38_4, e38_5, e38_8, e38_10, e38_12, e38_12n, e38_15, e38_16, e38_18, e38_19, e38_22, e38_24, e38_25, e38_28, e38_29, e38_32, e38_34, e38_35, e38_36, e38_37, e38_40, e38_42, e38_43, e38_46, e38_48, e38_50, e38_52, e38_55, e38_56, e38_59, e38_61, e38_62, e38_65, e38_66, e38_68, e38_69, e38_70, e38_72, e38_74, e38_75, e38_78, e38_79, e38_80, e38_82, e38_83, e38_84, e38_86, e38_88, e38_89, e38_92, J_add, J_sub, J_mul, J_neg, J_lt, J_le, J_eq, gArr_J, gAst_J, gSiz_J, gFld_o, gUpd_o0, gUpd_o1, gUpd_o2, gUpd_o3, gUpd_o4, gUpd_o5, gUpd_o6, gUpd_o7, gUpd_o8, gUpd_o9, gUpd_o10, gUpd_o11, gUpd_o12, gUpd_o13, gUpd_o14, gUpd_o15, gUpd_o16, gUpd_o17, gUpd_o18, gIsO_o, Option.bind_some, List.getElem?_cons_zero, List.getElem?_cons_succ, List.length_cons, List.length_nil, List.set_cons_zero, List.set_cons_succ, gCat_nil, gCat_int, gCat_ref, if_pos, if_neg, Option.toList_some, Option.toList_none, List.cons_append, List.nil_append, B_nar, J1_nar, J0_nar, if_true, if_false, rd_wr_same, rd_wr_ne, true_and, and_true, B_0, B_1, not_true_eq_false, not_false_eq_true, c1, c2, c3, c4, c5, c6, g1, r0, r1, r2, r3, r4, rdP0, hx.2.1]
    · rw [g3 i h1 (by omega), fset_ne (by omega)]
    · rw [g4 i (by omega), if_neg (by omega)]
    · rw [g5 q hq, rdWn (by omega), rd_putS (by omega)]

theorem s37 {nat : gNat} {d : Nat} {x m : Nat} {K : Lay} {se li : Int} (hK : vK K) (hse : 0 ≤ se ∧ se < K 0 2) (hli : 0 ≤ li ∧ li ≤ 24) (hmx : m + 3 < x ∨ x + 20 < m) : ∀ k : Nat, ∀ (w : gWd) (len hours : Int) (b : (Int × Int × (Int → Int))) (R : Int → Int) (Ts : Nat → Lay), len + (k : Nat) = 3 → 0 ≤ len → (0 ≤ hours ∧ hours ≤ li) → isRo w x b se li R Ts → isMe w m K → bOr b → vS K (Ts len.toNat) → (Ts len.toNat) 0 0 + (li - hours) < 1000000000 → ∃ w' R' Ts', gC nat (d + 2 * k + 7) 37 [.ref x, .ref m, .int (J len), .int (J hours)] w = some (none, w') ∧ isRo w' x (dfs K se li k len hours (Ts len.toNat) R b) se li R' Ts' ∧ (∀ i, 0 ≤ i → i < len → R' i = R i) ∧ (∀ i : Nat, (i : Int) ≤ len → Ts' i = Ts i) ∧ (∀ q, (q < x ∨ x + 20 ≤ q) → rd w' q = rd w q) ∧ w'.2 = w.2 := by
  intro k
  induction k with
  | zero =>
    intro w len hours b R Ts h0 h1 h2 hx hm hb hS hh
    refine ⟨w, R, Ts, ?_, hx, fun _ _ _ => rfl, fun _ _ => rfl, fun _ _ => rfl, rfl⟩
    have e : len = 3 := by omega
    subst e
    have c1 := s40 (nat := nat) (d := d + 5) hx (i := 3) (by omega)
    show gC nat (d + 7) 37 _ w = _
    rw [en37]
    simp (disch := first | omega | exact Nat.le_of_ble_eq_true rfl) only [e37_0, e37_1, e37_2, e37_5, e37_7, e37_8, e37_9, e37_12, e37_14, e37_14n, e37_17, e37_18, e37_19, e37_23, e37_24, e37_27, e37_30, e37_32, e37_33, e37_35, e37_38, e37_41, e37_42, e37_43, e37_45, e37_47, e37_48, e37_49, e37_52, e37_55, e37_58, J_add, J_sub, J_mul, J_neg, J_lt, J_le, J_eq, gArr_J, gAst_J, gSiz_J, gFld_o, gUpd_o0, gUpd_o1, gUpd_o2, gUpd_o3, gUpd_o4, gUpd_o5, gUpd_o6, gUpd_o7, gUpd_o8, gUpd_o9, gUpd_o10, gUpd_o11, gUpd_o12, gUpd_o13, gUpd_o14, gUpd_o15, gUpd_o16, gUpd_o17, gUpd_o18, gIsO_o, Option.bind_some, List.getElem?_cons_zero, List.getElem?_cons_succ, List.length_cons, List.length_nil, List.set_cons_zero, List.set_cons_succ, gCat_nil, gCat_int, gCat_ref, if_pos, if_neg, Option.toList_some, Option.toList_none, List.cons_append, List.nil_append, B_nar, J1_nar, J0_nar, if_true, if_false, rd_wr_same, rd_wr_ne, true_and, and_true, B_0, B_1, not_true_eq_false, not_false_eq_true, c1, hx.2.1]
  | succ k ih =>
    intro w len hours b R Ts h0 h1 h2 hx hm hb hS hh
    have k1 := hK.2.1
    have k0 := hx.1
    have hT := (hx.2.2.2.2.2 len.toNat (by omega)).1
    have hl : ∀ (j n : Nat) (w1 : gWd) (b1 : (Int × Int × (Int → Int))) (R1 : Int → Int) (Ts1 : Nat → Lay), n + j = (K 0 1).toNat → isRo w1 x b1 se li R1 Ts1 → isMe w1 m K → bOr b1 → (∀ i, 0 ≤ i → i < len → R1 i = R i) → (∀ i : Nat, (i : Int) ≤ len → Ts1 i = Ts i) → ∃ w' R' Ts', gX (gC nat (d + 2 * k + 8)) nat 37 21 [some (.ref x), some (.ref m), some (.int (J len)), some (.int (J hours)), some (.ref (x + 4 + 4 * len.toNat)), some (.int (J n))] [] [] w1 = some (none, w') ∧ (∀ b0, b1 = rng (fun g b => if K 1 (5 * (g : Int) + 4) ≤ (Ts len.toNat) 1 g then b else
      if (cfr K (sset (Ts len.toNat) 2 se g) g 0 (li - hours).toNat).1 = -4 then b else
      dfs K se li k (len + 1) (hours + (cfr K (sset (Ts len.toNat) 2 se g) g 0 (li - hours).toNat).1) (lives K (sset (Ts len.toNat) 2 se g) (cfr K (sset (Ts len.toNat) 2 se g) g 0 (li - hours).toNat).2) (fset R len g) (note b (len + 1) (hours + (cfr K (sset (Ts len.toNat) 2 se g) g 0 (li - hours).toNat).1) (fset R len g))) n b0 → isRo w' x (dfs K se li (k + 1) len hours (Ts len.toNat) R b0) se li R' Ts') ∧ (∀ i, 0 ≤ i → i < len → R' i = R i) ∧ (∀ i : Nat, (i : Int) ≤ len → Ts' i = Ts i) ∧ (∀ q, (q < x ∨ x + 20 ≤ q) → rd w' q = rd w1 q) ∧ w'.2 = w1.2 := by
      intro j
      induction j with
      | zero =>
        intro n w1 b1 R1 Ts1 hn hx1 hm1 hb1 hR1 hT1
        rw [Nat.add_zero] at hn
        subst hn
        refine ⟨w1, R1, Ts1, ?_, fun b0 e => by rw [dfs, ← e]; exact hx1, hR1, hT1, fun _ _ => rfl, rfl⟩
        have r := hm1.2.1
        rw [e37_21]
        simp (disch := first | omega | exact Nat.le_of_ble_eq_true rfl) only [e37_0, e37_1, e37_2, e37_5, e37_7, e37_8, e37_9, e37_12, e37_14, e37_14n, e37_17, e37_18, e37_19, e37_23, e37_24, e37_27, e37_30, e37_32, e37_33, e37_35, e37_38, e37_41, e37_42, e37_43, e37_45, e37_47, e37_48, e37_49, e37_52, e37_55, e37_58, J_add, J_sub, J_mul, J_neg, J_lt, J_le, J_eq, gArr_J, gAst_J, gSiz_J, gFld_o, gUpd_o0, gUpd_o1, gUpd_o2, gUpd_o3, gUpd_o4, gUpd_o5, gUpd_o6, gUpd_o7, gUpd_o8, gUpd_o9, gUpd_o10, gUpd_o11, gUpd_o12, gUpd_o13, gUpd_o14, gUpd_o15, gUpd_o16, gUpd_o17, gUpd_o18, gIsO_o, Option.bind_some, List.getElem?_cons_zero, List.getElem?_cons_succ, List.length_cons, List.length_nil, List.set_cons_zero, List.set_cons_succ, gCat_nil, gCat_int, gCat_ref, if_pos, if_neg, Option.toList_some, Option.toList_none, List.cons_append, List.nil_append, B_nar, J1_nar, J0_nar, if_true, if_false, rd_wr_same, rd_wr_ne, true_and, and_true, B_0, B_1, not_true_eq_false, not_false_eq_true, r]
      | succ j ihj =>
        intro n w1 b1 R1 Ts1 hn hx1 hm1 hb1 hR1 hT1
        have eT : Ts1 len.toNat = Ts len.toNat := hT1 _ (by omega)
        have r := hm1.2.1
        have hs := (hx1.2.2.2.2.2 len.toNat (by omega)).1
        have c1 := s62 (nat := nat) (d := d + 2 * k + 6) (w := w1) (a := x + 4 + 4 * len.toNat) (S := Ts1 len.toNat) hm1 hK (by omega) (by omega) (g := n) (by omega) (by
          rw [eT]
          have := hS.2.1 n (by omega) (by omega)
          have := (hK.2.2.2.2.2.1 n (by omega) (by omega)).2.2.2.2.2
          omega)
        rw [putS_self hs, eT] at c1
        have next : ∀ w2 b2 R2 Ts2, isRo w2 x b2 se li R2 Ts2 → isMe w2 m K → bOr b2 → (∀ i, 0 ≤ i → i < len → R2 i = R i) → (∀ i : Nat, (i : Int) ≤ len → Ts2 i = Ts i) → (∀ q, (q < x ∨ x + 20 ≤ q) → rd w2 q = rd w1 q) → w2.2 = w1.2 → gX (gC nat (d + 2 * k + 8)) nat 37 21 [some (.ref x), some (.ref m), some (.int (J len)), some (.int (J hours)), some (.ref (x + 4 + 4 * len.toNat)), some (.int (J n))] [] [] w1 = gX (gC nat (d + 2 * k + 8)) nat 37 21 [some (.ref x), some (.ref m), some (.int (J len)), some (.int (J hours)), some (.ref (x + 4 + 4 * len.toNat)), some (.int (J (n + 1 : Nat)))] [] [] w2 → (∀ b0, b1 = rng (fun g b => if K 1 (5 * (g : Int) + 4) ≤ (Ts len.toNat) 1 g then b else
      if (cfr K (sset (Ts len.toNat) 2 se g) g 0 (li - hours).toNat).1 = -4 then b else
      dfs K se li k (len + 1) (hours + (cfr K (sset (Ts len.toNat) 2 se g) g 0 (li - hours).toNat).1) (lives K (sset (Ts len.toNat) 2 se g) (cfr K (sset (Ts len.toNat) 2 se g) g 0 (li - hours).toNat).2) (fset R len g) (note b (len + 1) (hours + (cfr K (sset (Ts len.toNat) 2 se g) g 0 (li - hours).toNat).1) (fset R len g))) n b0 → b2 = rng (fun g b => if K 1 (5 * (g : Int) + 4) ≤ (Ts len.toNat) 1 g then b else
      if (cfr K (sset (Ts len.toNat) 2 se g) g 0 (li - hours).toNat).1 = -4 then b else
      dfs K se li k (len + 1) (hours + (cfr K (sset (Ts len.toNat) 2 se g) g 0 (li - hours).toNat).1) (lives K (sset (Ts len.toNat) 2 se g) (cfr K (sset (Ts len.toNat) 2 se g) g 0 (li - hours).toNat).2) (fset R len g) (note b (len + 1) (hours + (cfr K (sset (Ts len.toNat) 2 se g) g 0 (li - hours).toNat).1) (fset R len g))) (n + 1) b0) → ∃ w' R' Ts', gX (gC nat (d + 2 * k + 8)) nat 37 21 [some (.ref x), some (.ref m), some (.int (J len)), some (.int (J hours)), some (.ref (x + 4 + 4 * len.toNat)), some (.int (J n))] [] [] w1 = some (none, w') ∧ (∀ b0, b1 = rng (fun g b => if K 1 (5 * (g : Int) + 4) ≤ (Ts len.toNat) 1 g then b else
      if (cfr K (sset (Ts len.toNat) 2 se g) g 0 (li - hours).toNat).1 = -4 then b else
      dfs K se li k (len + 1) (hours + (cfr K (sset (Ts len.toNat) 2 se g) g 0 (li - hours).toNat).1) (lives K (sset (Ts len.toNat) 2 se g) (cfr K (sset (Ts len.toNat) 2 se g) g 0 (li - hours).toNat).2) (fset R len g) (note b (len + 1) (hours + (cfr K (sset (Ts len.toNat) 2 se g) g 0 (li - hours).toNat).1) (fset R len g))) n b0 → isRo w' x (dfs K se li (k + 1) len hours (Ts len.toNat) R b0) se li R' Ts') ∧ (∀ i, 0 ≤ i → i < len → R' i = R i) ∧ (∀ i : Nat, (i : Int) ≤ len → Ts' i = Ts i) ∧ (∀ q, (q < x ∨ x + 20 ≤ q) → rd w' q = rd w1 q) ∧ w'.2 = w1.2 := fun w2 b2 R2 Ts2 a1 a2 a3 a4 a5 a6 a7 a8 a9 => by
          obtain ⟨w', R', Ts', g1, g2, g3, g4, g5, g6⟩ := ihj (n + 1) w2 b2 R2 Ts2 (by omega) a1 a2 a3 a4 a5
          exact ⟨w', R', Ts', by rw [a8]; exact g1, fun b0 e => g2 b0 (a9 b0 e), g3, g4, fun q hq => by rw [g5 q hq, a6 q hq], by rw [g6, a7]⟩
        by_cases hc : K 1 (5 * (n : Int) + 4) ≤ (Ts len.toNat) 1 n
        · rw [B_pos hc] at c1
          refine next w1 b1 R1 Ts1 hx1 hm1 hb1 hR1 hT1 (fun _ _ => rfl) rfl ?_ (fun b0 e => by rw [rng, if_pos hc]; exact e)
          rw [e37_21, show ((n + 1 : Nat) : Int) = (n : Int) + 1 from rfl]
          simp (disch := first | omega | exact Nat.le_of_ble_eq_true rfl) only [e37_0, e37_1, e37_2, e37_5, e37_7, e37_8, e37_9, e37_12, e37_14, e37_14n, e37_17, e37_18, e37_19, e37_23, e37_24, e37_27, e37_30, e37_32, e37_33, e37_35, e37_38, e37_41, e37_42, e37_43, e37_45, e37_47, e37_48, e37_49, e37_52, e37_55, e37_58, J_add, J_sub, J_mul, J_neg, J_lt, J_le, J_eq, gArr_J, gAst_J, gSiz_J, gFld_o, gUpd_o0, gUpd_o1, gUpd_o2, gUpd_o3, gUpd_o4, gUpd_o5, gUpd_o6, gUpd_o7, gUpd_o8, gUpd_o9, gUpd_o10, gUpd_o11, gUpd_o12, gUpd_o13, gUpd_o14, gUpd_o15, gUpd_o16, gUpd_o17, gUpd_o18, gIsO_o, Option.bind_some, List.getElem?_cons_zero, List.getElem?_cons_succ, List.length_cons, List.length_nil, List.set_cons_zero, List.set_cons_succ, gCat_nil, gCat_int, gCat_ref, if_pos, if_neg, Option.toList_some, Option.toList_none, List.cons_append, List.nil_append, B_nar, J1_nar, J0_nar, if_true, if_false, rd_wr_same, rd_wr_ne, true_and, and_true, B_0, B_1, not_true_eq_false, not_false_eq_true, r, c1, hs.2.1]
        · rw [B_neg hc] at c1
          obtain ⟨w2, R2, Ts2, g1, g2, g3, g4, g5, g6⟩ := s38 (nat := nat) (d := d + 2 * k) hK hse hli hmx ih (by omega) h1 h2 hx1 hm1 hb1 (by rw [eT]; exact hS) (by rw [eT]; exact hh) (g := n) (by omega) (by rw [eT]; omega)
          rw [eT] at g2
          rw [show dfs K se li k (len + 1) (hours + (cfr K (sset (Ts len.toNat) 2 se n) n 0 (li - hours).toNat).1) (lives K (sset (Ts len.toNat) 2 se n) (cfr K (sset (Ts len.toNat) 2 se n) n 0 (li - hours).toNat).2) (fset R1 len n) (note b1 (len + 1) (hours + (cfr K (sset (Ts len.toNat) 2 se n) n 0 (li - hours).toNat).1) (fset R1 len n)) = dfs K se li k (len + 1) (hours + (cfr K (sset (Ts len.toNat) 2 se n) n 0 (li - hours).toNat).1) (lives K (sset (Ts len.toNat) 2 se n) (cfr K (sset (Ts len.toNat) 2 se n) n 0 (li - hours).toNat).2) (fset R len n) (note b1 (len + 1) (hours + (cfr K (sset (Ts len.toNat) 2 se n) n 0 (li - hours).toNat).1) (fset R len n)) from by
            have e : ∀ i, 0 ≤ i → i < len + 1 → fset R1 len n i = fset R len n i := fun i h1 h2 => by
              by_cases q : i = len
              · rw [q, fset_at, fset_at]
              · rw [fset_ne q, fset_ne q]; exact hR1 i h1 (by omega)
            rw [note_congr e, dfs_congr _ _ _ _ _ _ _ e]] at g2
          refine next w2 _ R2 Ts2 g2 (isMe_fr hm1 (fun q q1 q2 => g5 q (by omega))) ?_ (fun i i1 i2 => by rw [g3 i i1 i2]; exact hR1 i i1 i2) (fun i hi => by rw [g4 i hi]; exact hT1 i hi) g5 g6 ?_ (fun b0 e => by rw [rng, if_neg hc, ← e])
          · split
            · exact hb1
            · rename_i hcf
              obtain ⟨q1, q2⟩ := cfr_in K (sset (Ts len.toNat) 2 se n) n (li - hours).toNat 0
              have q3 := q2.resolve_left hcf
              exact dfs_ok (by omega) _ _ _ _ _ _ (by omega) (by omega) (by omega) (note_ok hb1 (by omega) (by omega))
          · rw [e37_21, show ((n + 1 : Nat) : Int) = (n : Int) + 1 from rfl]
            simp (disch := first | omega | exact Nat.le_of_ble_eq_true rfl) only [e37_0, e37_1, e37_2, e37_5, e37_7, e37_8, e37_9, e37_12, e37_14, e37_14n, e37_17, e37_18, e37_19, e37_23, e37_24, e37_27, e37_30, e37_32, e37_33, e37_35, e37_38, e37_41, e37_42, e37_43, e37_45, e37_47, e37_48, e37_49, e37_52, e37_55, e37_58, J_add, J_sub, J_mul, J_neg, J_lt, J_le, J_eq, gArr_J, gAst_J, gSiz_J, gFld_o, gUpd_o0, gUpd_o1, gUpd_o2, gUpd_o3, gUpd_o4, gUpd_o5, gUpd_o6, gUpd_o7, gUpd_o8, gUpd_o9, gUpd_o10, gUpd_o11, gUpd_o12, gUpd_o13, gUpd_o14, gUpd_o15, gUpd_o16, gUpd_o17, gUpd_o18, gIsO_o, Option.bind_some, List.getElem?_cons_zero, List.getElem?_cons_succ, List.length_cons, List.length_nil, List.set_cons_zero, List.set_cons_succ, gCat_nil, gCat_int, gCat_ref, if_pos, if_neg, Option.toList_some, Option.toList_none, List.cons_append, List.nil_append, B_nar, J1_nar, J0_nar, if_true, if_false, rd_wr_same, rd_wr_ne, true_and, and_true, B_0, B_1, not_true_eq_false, not_false_eq_true, r, c1, g1, hx1.2.1, hs.2.1]
    obtain ⟨w', R', Ts', g1, g2, g3, g4, g5, g6⟩ := hl (K 0 1).toNat 0 w b R Ts (by omega) hx hm hb (fun _ _ _ => rfl) (fun _ _ => rfl)
    refine ⟨w', R', Ts', ?_, g2 b rfl, g3, g4, g5, g6⟩
    rw [show ((0 : Nat) : Int) = 0 from rfl] at g1
    rw [← g1]
    have c1 := s40 (nat := nat) (d := d + 2 * k + 7) hx (i := len) (by omega)
    show gC nat (d + 2 * k + 9) 37 _ w = _
    rw [en37]
    simp (disch := first | omega | exact Nat.le_of_ble_eq_true rfl) only [e37_0, e37_1, e37_2, e37_5, e37_7, e37_8, e37_9, e37_12, e37_14, e37_14n, e37_17, e37_18, e37_19, e37_23, e37_24, e37_27, e37_30, e37_32, e37_33, e37_35, e37_38, e37_41, e37_42, e37_43, e37_45, e37_47, e37_48, e37_49, e37_52, e37_55, e37_58, J_add, J_sub, J_mul, J_neg, J_lt, J_le, J_eq, gArr_J, gAst_J, gSiz_J, gFld_o, gUpd_o0, gUpd_o1, gUpd_o2, gUpd_o3, gUpd_o4, gUpd_o5, gUpd_o6, gUpd_o7, gUpd_o8, gUpd_o9, gUpd_o10, gUpd_o11, gUpd_o12, gUpd_o13, gUpd_o14, gUpd_o15, gUpd_o16, gUpd_o17, gUpd_o18, gIsO_o, Option.bind_some, List.getElem?_cons_zero, List.getElem?_cons_succ, List.length_cons, List.length_nil, List.set_cons_zero, List.set_cons_succ, gCat_nil, gCat_int, gCat_ref, if_pos, if_neg, Option.toList_some, Option.toList_none, List.cons_append, List.nil_append, B_nar, J1_nar, J0_nar, if_true, if_false, rd_wr_same, rd_wr_ne, true_and, and_true, B_0, B_1, not_true_eq_false, not_false_eq_true, c1, hx.2.1]

theorem s36 {nat : gNat} {d : Nat} {w : gWd} {x a : Nat} {b : Int × Int × (Int → Int)} {se li : Int} {R : Int → Int} {Ts : Nat → Lay} {S : Lay} (hx : isRo w x b se li R Ts) (ha : isSt w a S) (hS : nS S) (hax : a + 3 < x ∨ x + 20 ≤ a) {y n : Int} : ∃ w', gC nat (d + 3) 36 [.ref x, .ref a, .int (J y), .int (J n)] w = some (none, w') ∧ isRo w' x (0, 0, b.2.2) y n R (fun i => if i = 0 then aoff S else Ts i) ∧ (∀ q, (q < x ∨ x + 20 ≤ q) → rd w' q = rd w q) ∧ w'.2 = w.2 := by
  have k0 := hx.1
  have hN := hx.2.2.2.2.2 0 (by omega)
  have hx1 := isRo_upd (b' := ((0 : Int), (0 : Int), b.2.2)) (se' := y) (li' := n) (R' := R) hx
  have e1 : wr w x (oC 4 [.int (J 0), .int (J 0), .ref (x + 1), .ref (x + 2), .ref (x + 3), .int (J y), .int (J n)]) = putW w x 0 0 y n b.2.2 R := putW_rd rfl rd_wr_same (by rw [rd_wr_ne (by omega)]; exact hx.2.2.1) (by rw [rd_wr_ne (by omega)]; exact hx.2.2.2.1) (fun q h => rd_wr_ne (by omega))
  have c1 := s40 (nat := nat) (d := d + 1) hx1 (i := 0) (by omega)
  have hN1 := hx1.2.2.2.2.2 0 (by omega)
  have ha1 : isSt (putW w x 0 0 y n b.2.2 R) a S := isSt_fr ha (fun q q1 q2 => rdWn (by omega))
  have c2 := s58w (nat := nat) (d := d) hN1.1 ha1 (by omega) hN1.2 hS
  have c3 := s67 (nat := nat) (d := d) (w := putW w x 0 0 y n b.2.2 R) (a := x + 4 + 4 * 0) (S := S) (by omega)
  have r1 := hN1.1.2.1
  refine ⟨putS (putW w x 0 0 y n b.2.2 R) (x + 4 + 4 * 0) (aoff S), ?_, isRo_put hx1 (by omega) (nS_aoff hS), fun q h => by rw [rd_putS (by omega), rdWn (by omega)], rfl⟩
  rw [en36]
  simp (disch := first | omega | exact Nat.le_of_ble_eq_true rfl) only [e36_0, e36_1, e36_2, e36_5, e36_6, e36_7, e36_10, e36_11, e36_12, e36_15, e36_16, e36_17, e36_20, e36_21, e36_22, e36_25, e36_27, e36_29, e36_29n, e36_32, e36_34, e36_35, e36_38, e36_40, e36_43, J_add, J_sub, J_mul, J_neg, J_lt, J_le, J_eq, gArr_J, gAst_J, gSiz_J, gFld_o, gUpd_o0, gUpd_o1, gUpd_o2, gUpd_o3, gUpd_o4, gUpd_o5, gUpd_o6, gUpd_o7, gUpd_o8, gUpd_o9, gUpd_o10, gUpd_o11, gUpd_o12, gUpd_o13, gUpd_o14, gUpd_o15, gUpd_o16, gUpd_o17, gUpd_o18, gIsO_o, Option.bind_some, List.getElem?_cons_zero, List.getElem?_cons_succ, List.length_cons, List.length_nil, List.set_cons_zero, List.set_cons_succ, gCat_nil, gCat_int, gCat_ref, if_pos, if_neg, Option.toList_some, Option.toList_none, List.cons_append, List.nil_append, B_nar, J1_nar, J0_nar, if_true, if_false, rd_wr_same, rd_wr_ne, true_and, and_true, B_0, B_1, not_true_eq_false, not_false_eq_true, hx.2.1, wr_wr, e1, c1, c2, c3, r1, rdP0, Nat.mul_zero, Int.toNat_zero, Nat.add_zero]
