theorem nS_sset {S : Lay} (h : nS S) {a i v : Int} (hi : a = 0 ∨ (a = 1 ∧ i < 8) ∨ (a = 2 ∧ i < 4) ∨ (a = 3 ∧ i < 4)) : nS (sset S a i v) := by
  obtain ⟨h1, h2, h3⟩ := h
  refine ⟨fun x hx => ?_, fun x hx => ?_, fun x hx => ?_⟩
  · unfold sset
    rw [if_neg (by omega)]
    exact h1 x hx
  · unfold sset
    rw [if_neg (by omega)]
    exact h2 x hx
  · unfold sset
    rw [if_neg (by omega)]
    exact h3 x hx
theorem nS_coff {S : Lay} (h : nS S) {g : Int} : nS (coff S g) := by
  obtain ⟨h1, h2, h3⟩ := h
  refine ⟨fun x hx => ?_, fun x hx => ?_, fun x hx => ?_⟩
  · unfold coff
    rw [if_neg (by omega)]
    exact h1 x hx
  · unfold coff
    rw [if_neg (by omega)]
    exact h2 x hx
  · unfold coff
    rw [if_neg (by omega)]
    exact h3 x hx
theorem nS_aoff {S : Lay} (h : nS S) : nS (aoff S) := by
  obtain ⟨h1, h2, h3⟩ := h
  refine ⟨fun x hx => ?_, fun x hx => ?_, fun x hx => ?_⟩
  · unfold aoff
    rw [if_neg (by omega)]
    exact h1 x hx
  · unfold aoff
    rw [if_neg (by omega)]
    exact h2 x hx
  · unfold aoff
    rw [if_neg (by omega)]
    exact h3 x hx
theorem nS_fly {K S : Lay} (hK : vK K) (hS : vS K S) (h : nS S) {d : Int} (hd : 0 ≤ d ∧ d < K 0 2) : nS (fly K S d) := by
  have h2 := hK.2.2.1
  have h1 := hK.2.1
  have hg := hS.2.2.1 d hd.1 (by omega)
  unfold fly
  split
  · exact h
  split
  · exact nS_sset h (by omega)
  split
  · exact nS_sset h (by omega)
  · exact nS_coff (nS_sset h (by omega))
theorem nS_flies {K S : Lay} (hK : vK K) (hS : vS K S) (h : nS S) : ∀ n : Nat, (n : Int) ≤ K 0 2 → nS (flies K S n) := by
  intro n
  induction n with
  | zero => intro _; exact h
  | succ n ih =>
    intro hn
    exact nS_fly hK (vS_flies hK hS n (by omega)) (ih (by omega)) (by omega)
theorem nS_unp {K S : Lay} (hK : vK K) (h : nS S) : nS (unp K S) := by
  have k1 := hK.2.1
  obtain ⟨h1, h2, h3⟩ := h
  refine ⟨fun x hx => ?_, fun x hx => ?_, fun x hx => ?_⟩
  · unfold unp
    rw [if_neg (by omega)]
    exact h1 x hx
  · unfold unp
    rw [if_neg (by omega)]
    exact h2 x hx
  · unfold unp
    rw [if_neg (by omega)]
    exact h3 x hx
theorem nS_live {K S : Lay} (hK : vK K) (hS : vS K S) (h : nS S) (rain : Prop) [Decidable rain] : nS (live K S rain) := by
  have k2 := hK.2.2.1
  unfold live
  refine nS_sset ?_ (Or.inl rfl)
  have h1 : nS (if S 0 0 % 24 < K 0 3 then flies K S (K 0 2).toNat else S) := by
    split
    · exact nS_flies hK hS h _ (by omega)
    · exact h
  split
  · exact nS_unp hK h1
  · exact h1
theorem nS_lives {K S : Lay} (hK : vK K) (hS : vS K S) (h : nS S) : ∀ n, nS (lives K S n) := by
  intro n
  induction n with
  | zero => exact h
  | succ n ih => exact nS_live hK (vS_lives hK hS n) ih _
theorem cfr_in (K S : Lay) (g : Int) : ∀ (k i : Nat), ((cfr K S g i k).2 ≤ i + k ∧ i ≤ (cfr K S g i k).2) ∧ ((cfr K S g i k).1 = -4 ∨ (cfr K S g i k).1 = ((cfr K S g i k).2 : Int)) := by
  intro k
  induction k with
  | zero =>
    intro i
    rw [cfr]
    split
    · exact ⟨by simp, Or.inr rfl⟩
    · exact ⟨by simp, Or.inl rfl⟩
  | succ k ih =>
    intro i
    rw [cfr]
    split
    · exact ⟨⟨by dsimp only; omega, Nat.le_refl i⟩, Or.inr rfl⟩
    · obtain ⟨h1, h2⟩ := ih (i + 1)
      exact ⟨by omega, h2⟩
/-! the search for a row: an object at x, best and row behind it, then the standings -/

def putW (w : gWd) (x : Nat) (mo fe se li : Int) (A1 A2 : Int → Int) : gWd := wr (wr (wr w x (oC 4 [.int (J mo), .int (J fe), .ref (x + 1), .ref (x + 2), .ref (x + 3), .int (J se), .int (J li)])) (x + 1) (iC 3 (eI A1))) (x + 2) (iC 3 (eI A2))
theorem rdW0 {w : gWd} {x : Nat} {mo fe se li : Int} {A1 A2 : Int → Int} : rd (putW w x mo fe se li A1 A2) x = oC 4 [.int (J mo), .int (J fe), .ref (x + 1), .ref (x + 2), .ref (x + 3), .int (J se), .int (J li)] := by
  unfold putW
  simp (disch := omega) only [rd_wr_ne, rd_wr_same]
theorem rdW1 {w : gWd} {x : Nat} {mo fe se li : Int} {A1 A2 : Int → Int} : rd (putW w x mo fe se li A1 A2) (x + 1) = iC 3 (eI A1) := by
  unfold putW
  simp (disch := omega) only [rd_wr_ne, rd_wr_same]
theorem rdW2 {w : gWd} {x : Nat} {mo fe se li : Int} {A1 A2 : Int → Int} : rd (putW w x mo fe se li A1 A2) (x + 2) = iC 3 (eI A2) := by
  unfold putW
  simp (disch := omega) only [rd_wr_ne, rd_wr_same]
theorem rdWn {w : gWd} {x : Nat} {mo fe se li : Int} {A1 A2 : Int → Int} {b : Nat} (h : b < x ∨ x + 2 < b) : rd (putW w x mo fe se li A1 A2) b = rd w b := by
  unfold putW
  simp (disch := omega) only [rd_wr_ne]
theorem putW_rd {w : gWd} {x : Nat} {mo fe se li : Int} {A1 A2 : Int → Int} {w2 : gWd} (hz : w2.2 = w.2) (h0 : rd w2 x = oC 4 [.int (J mo), .int (J fe), .ref (x + 1), .ref (x + 2), .ref (x + 3), .int (J se), .int (J li)]) (h1 : rd w2 (x + 1) = iC 3 (eI A1)) (h2 : rd w2 (x + 2) = iC 3 (eI A2)) (hn : ∀ b, (b < x ∨ x + 2 < b) → rd w2 b = rd w b) : w2 = putW w x mo fe se li A1 A2 := by
  refine Prod.ext (funext fun b => ?_) hz
  show rd w2 b = rd (putW w x mo fe se li A1 A2) b
  by_cases hb : b < x ∨ x + 2 < b
  · rw [hn b hb, rdWn hb]
  · have hx : b = x ∨ b = x + 1 ∨ b = x + 2 := by omega
    rcases hx with rfl | rfl | rfl
    · rw [h0, rdW0]
    · rw [h1, rdW1]
    · rw [h2, rdW2]
theorem wW0 {w : gWd} {x : Nat} {mo fe se li : Int} {A1 A2 : Int → Int} {mo' fe' se' li' : Int} : wr (putW w x mo fe se li A1 A2) x (oC 4 [.int (J mo'), .int (J fe'), .ref (x + 1), .ref (x + 2), .ref (x + 3), .int (J se'), .int (J li')]) = putW w x mo' fe' se' li' A1 A2 := putW_rd (by rfl) rd_wr_same (by rw [rd_wr_ne (by omega)]; exact rdW1) (by rw [rd_wr_ne (by omega)]; exact rdW2) (fun b hb => by rw [rd_wr_ne (by omega), rdWn hb])
theorem wW1 {w : gWd} {x : Nat} {mo fe se li : Int} {A1 A2 : Int → Int} {B : Int → Int} : wr (putW w x mo fe se li A1 A2) (x + 1) (iC 3 (eI B)) = putW w x mo fe se li B A2 := putW_rd (by rfl) (by rw [rd_wr_ne (by omega)]; exact rdW0) rd_wr_same (by rw [rd_wr_ne (by omega)]; exact rdW2) (fun b hb => by rw [rd_wr_ne (by omega), rdWn hb])
theorem wW2 {w : gWd} {x : Nat} {mo fe se li : Int} {A1 A2 : Int → Int} {B : Int → Int} : wr (putW w x mo fe se li A1 A2) (x + 2) (iC 3 (eI B)) = putW w x mo fe se li A1 B := putW_rd (by rfl) (by rw [rd_wr_ne (by omega)]; exact rdW0) (by rw [rd_wr_ne (by omega)]; exact rdW1) rd_wr_same (fun b hb => by rw [rd_wr_ne (by omega), rdWn hb])

def isRo (w : gWd) (x : Nat) (b : Int × Int × (Int → Int)) (se li : Int) (R : Int → Int) (Ts : Nat → Lay) : Prop := x + 20 < gSTR ∧ rd w x = oC 4 [.int (J b.1), .int (J b.2.1), .ref (x + 1), .ref (x + 2), .ref (x + 3), .int (J se), .int (J li)] ∧ rd w (x + 1) = iC 3 (eI b.2.2) ∧ rd w (x + 2) = iC 3 (eI R) ∧ rd w (x + 3) = rC 4 (shRow (x + 2) 4) ∧ ∀ i, i < 4 → isSt w (x + 4 + 4 * i) (Ts i) ∧ nS (Ts i)
def note (b : Int × Int × (Int → Int)) (len hours : Int) (R : Int → Int) : Int × Int × (Int → Int) := if len < b.1 ∨ (len = b.1 ∧ b.2.1 ≤ hours) then b else (len, hours, fun i => if 0 ≤ i ∧ i < len then R i else b.2.2 i)
def rng {α : Type} (f : Nat → α → α) : Nat → α → α
  | 0, a => a
  | n + 1, a => f n (rng f n a)
def dfs (K : Lay) (se li : Int) : Nat → Int → Int → Lay → (Int → Int) → (Int × Int × (Int → Int)) → (Int × Int × (Int → Int))
  | 0, _, _, _, _, b => b
  | k + 1, len, hours, S, R, b => rng (fun g b => if K 1 (5 * (g : Int) + 4) ≤ S 1 g then b else
      if (cfr K (sset S 2 se g) g 0 (li - hours).toNat).1 = -4 then b else
      dfs K se li k (len + 1) (hours + (cfr K (sset S 2 se g) g 0 (li - hours).toNat).1) (lives K (sset S 2 se g) (cfr K (sset S 2 se g) g 0 (li - hours).toNat).2) (fset R len g) (note b (len + 1) (hours + (cfr K (sset S 2 se g) g 0 (li - hours).toNat).1) (fset R len g))) (K 0 1).toNat b

theorem s40 {nat : gNat} {d : Nat} {w : gWd} {x : Nat} {b : Int × Int × (Int → Int)} {se li : Int} {R : Int → Int} {Ts : Nat → Lay} (hx : isRo w x b se li R Ts) {i : Int} (hi : 0 ≤ i ∧ i < 4) : gC nat (d + 1) 40 [.ref x, .int (J i)] w = some (some (.ref (x + 4 + 4 * i.toNat)), w) := by
  rw [en40]
  obtain ⟨h0, h1, h2, h3, h4, h5⟩ := hx
  have a3 : x + 3 < gSTR := by omega
  have q := gArq_J (x := x + 2) (n := 4) (i := i) (by omega) (by omega)
  rw [show x + 2 + 2 = x + 4 from rfl] at q
  simp (disch := first | omega | exact Nat.le_of_ble_eq_true rfl) only [e40_0, e40_1, e40_4, e40_5, e40_6, e40_9, e40_10, e40_13, e40_14, e40_17, e40_18, e40_19, e40_22, e40_23, J_add, J_sub, J_mul, J_neg, J_lt, J_le, J_eq, gArr_J, gAst_J, gSiz_J, gFld_o, gUpd_o0, gUpd_o1, gUpd_o2, gUpd_o3, gUpd_o4, gUpd_o5, gUpd_o6, gUpd_o7, gUpd_o8, gUpd_o9, gUpd_o10, gUpd_o11, gUpd_o12, gUpd_o13, gUpd_o14, gUpd_o15, gUpd_o16, gUpd_o17, gUpd_o18, gIsO_o, Option.bind_some, List.getElem?_cons_zero, List.getElem?_cons_succ, List.length_cons, List.length_nil, List.set_cons_zero, List.set_cons_succ, gCat_nil, gCat_int, gCat_ref, if_pos, if_neg, Option.toList_some, Option.toList_none, List.cons_append, List.nil_append, B_nar, J1_nar, J0_nar, if_true, if_false, rd_wr_same, rd_wr_ne, true_and, and_true, B_0, B_1, not_true_eq_false, not_false_eq_true, h1, h4, gSiz_q, q]

theorem s39 {nat : gNat} {d : Nat} {w : gWd} {x : Nat} {mo fe se li : Int} {A1 A2 : Int → Int} (hx : x + 20 < gSTR) {len hours : Int} (hl : 1 ≤ len ∧ len ≤ 3) (hm : 0 ≤ mo ∧ mo ≤ 3) (hh : 0 ≤ hours ∧ hours < 1000) (hf : 0 ≤ fe ∧ fe < 1000) : gC nat (d + 2) 39 [.ref x, .int (J len), .int (J hours)] (putW w x mo fe se li A1 A2) = some (none, putW w x (note (mo, fe, A1) len hours A2).1 (note (mo, fe, A1) len hours A2).2.1 se li (note (mo, fe, A1) len hours A2).2.2 A2) := by
  rw [en39]
  have x1 : x + 1 < gSTR := by omega
  have x2 : x + 2 < gSTR := by omega
  have c1 : ∀ (mo fe : Int) (A1 : Int → Int) (i v : Int), (0 ≤ i ∧ i < 3) → gC nat (d + 1) 118 [.ref (x + 1), .int (J i), .int (J v)] (putW w x mo fe se li A1 A2) = some (none, putW w x mo fe se li (fset A1 i v) A2) := fun mo fe A1 i v h => by rw [s118 rdW1 x1 (by omega) (by omega), wW1]
  have c2 : ∀ (mo fe : Int) (A1 : Int → Int) (i : Int), (0 ≤ i ∧ i < 3) → gC nat (d + 1) 117 [.ref (x + 2), .int (J i)] (putW w x mo fe se li A1 A2) = some (some (.int (J (A2 i))), putW w x mo fe se li A1 A2) := fun mo fe A1 i h => s117 rdW2 x2 (by omega) (by omega)
  unfold note
  by_cases hc : len < mo ∨ (len = mo ∧ fe ≤ hours)
  · rw [if_pos hc]
    by_cases h1 : len < mo
    · simp (disch := first | omega | exact Nat.le_of_ble_eq_true rfl) only [e39_0, e39_1, e39_2, e39_5, e39_8, e39_9, e39_10, e39_13, e39_16, e39_17, e39_18, e39_21, e39_24, e39_25, e39_26, e39_27, e39_30, e39_31, e39_32, e39_35, e39_36, e39_37, e39_38, e39_39, e39_42, e39_43, e39_46, e39_47, e39_48, e39_51, e39_52, e39_55, e39_58, e39_61, e39_64, J_add, J_sub, J_mul, J_neg, J_lt, J_le, J_eq, gArr_J, gAst_J, gSiz_J, gFld_o, gUpd_o0, gUpd_o1, gUpd_o2, gUpd_o3, gUpd_o4, gUpd_o5, gUpd_o6, gUpd_o7, gUpd_o8, gUpd_o9, gUpd_o10, gUpd_o11, gUpd_o12, gUpd_o13, gUpd_o14, gUpd_o15, gUpd_o16, gUpd_o17, gUpd_o18, gIsO_o, Option.bind_some, List.getElem?_cons_zero, List.getElem?_cons_succ, List.length_cons, List.length_nil, List.set_cons_zero, List.set_cons_succ, gCat_nil, gCat_int, gCat_ref, if_pos, if_neg, Option.toList_some, Option.toList_none, List.cons_append, List.nil_append, B_nar, J1_nar, J0_nar, if_true, if_false, rd_wr_same, rd_wr_ne, true_and, and_true, B_0, B_1, not_true_eq_false, not_false_eq_true, rdW0, wW0]
    · simp (disch := first | omega | exact Nat.le_of_ble_eq_true rfl) only [e39_0, e39_1, e39_2, e39_5, e39_8, e39_9, e39_10, e39_13, e39_16, e39_17, e39_18, e39_21, e39_24, e39_25, e39_26, e39_27, e39_30, e39_31, e39_32, e39_35, e39_36, e39_37, e39_38, e39_39, e39_42, e39_43, e39_46, e39_47, e39_48, e39_51, e39_52, e39_55, e39_58, e39_61, e39_64, J_add, J_sub, J_mul, J_neg, J_lt, J_le, J_eq, gArr_J, gAst_J, gSiz_J, gFld_o, gUpd_o0, gUpd_o1, gUpd_o2, gUpd_o3, gUpd_o4, gUpd_o5, gUpd_o6, gUpd_o7, gUpd_o8, gUpd_o9, gUpd_o10, gUpd_o11, gUpd_o12, gUpd_o13, gUpd_o14, gUpd_o15, gUpd_o16, gUpd_o17, gUpd_o18, gIsO_o, Option.bind_some, List.getElem?_cons_zero, List.getElem?_cons_succ, List.length_cons, List.length_nil, List.set_cons_zero, List.set_cons_succ, gCat_nil, gCat_int, gCat_ref, if_pos, if_neg, Option.toList_some, Option.toList_none, List.cons_append, List.nil_append, B_nar, J1_nar, J0_nar, if_true, if_false, rd_wr_same, rd_wr_ne, true_and, and_true, B_0, B_1, not_true_eq_false, not_false_eq_true, rdW0, wW0]
  · rw [if_neg hc]
    have hl3 : len = 1 ∨ len = 2 ∨ len = 3 := by omega
    have key : gX (gC nat (d + 1)) nat 39 35 [some (.ref x), some (.int (J len)), some (.int (J hours)), none] [] [] (putW w x len hours se li A1 A2) = some (none, putW w x len hours se li (fun i => if 0 ≤ i ∧ i < len then A2 i else A1 i) A2) := by
      rcases hl3 with rfl | rfl | rfl
      · 
        simp (disch := first | omega | exact Nat.le_of_ble_eq_true rfl) only [e39_0, e39_1, e39_2, e39_5, e39_8, e39_9, e39_10, e39_13, e39_16, e39_17, e39_18, e39_21, e39_24, e39_25, e39_26, e39_27, e39_30, e39_31, e39_32, e39_35, e39_36, e39_37, e39_38, e39_39, e39_42, e39_43, e39_46, e39_47, e39_48, e39_51, e39_52, e39_55, e39_58, e39_61, e39_64, J_add, J_sub, J_mul, J_neg, J_lt, J_le, J_eq, gArr_J, gAst_J, gSiz_J, gFld_o, gUpd_o0, gUpd_o1, gUpd_o2, gUpd_o3, gUpd_o4, gUpd_o5, gUpd_o6, gUpd_o7, gUpd_o8, gUpd_o9, gUpd_o10, gUpd_o11, gUpd_o12, gUpd_o13, gUpd_o14, gUpd_o15, gUpd_o16, gUpd_o17, gUpd_o18, gIsO_o, Option.bind_some, List.getElem?_cons_zero, List.getElem?_cons_succ, List.length_cons, List.length_nil, List.set_cons_zero, List.set_cons_succ, gCat_nil, gCat_int, gCat_ref, if_pos, if_neg, Option.toList_some, Option.toList_none, List.cons_append, List.nil_append, B_nar, J1_nar, J0_nar, if_true, if_false, rd_wr_same, rd_wr_ne, true_and, and_true, B_0, B_1, not_true_eq_false, not_false_eq_true, rdW0, wW0, c1, c2, Int.reduceAdd]
        congr 3
        funext i
        unfold fset
        repeat' split
        all_goals first | rfl | omega | (congr 1; omega)
      · 
        simp (disch := first | omega | exact Nat.le_of_ble_eq_true rfl) only [e39_0, e39_1, e39_2, e39_5, e39_8, e39_9, e39_10, e39_13, e39_16, e39_17, e39_18, e39_21, e39_24, e39_25, e39_26, e39_27, e39_30, e39_31, e39_32, e39_35, e39_36, e39_37, e39_38, e39_39, e39_42, e39_43, e39_46, e39_47, e39_48, e39_51, e39_52, e39_55, e39_58, e39_61, e39_64, J_add, J_sub, J_mul, J_neg, J_lt, J_le, J_eq, gArr_J, gAst_J, gSiz_J, gFld_o, gUpd_o0, gUpd_o1, gUpd_o2, gUpd_o3, gUpd_o4, gUpd_o5, gUpd_o6, gUpd_o7, gUpd_o8, gUpd_o9, gUpd_o10, gUpd_o11, gUpd_o12, gUpd_o13, gUpd_o14, gUpd_o15, gUpd_o16, gUpd_o17, gUpd_o18, gIsO_o, Option.bind_some, List.getElem?_cons_zero, List.getElem?_cons_succ, List.length_cons, List.length_nil, List.set_cons_zero, List.set_cons_succ, gCat_nil, gCat_int, gCat_ref, if_pos, if_neg, Option.toList_some, Option.toList_none, List.cons_append, List.nil_append, B_nar, J1_nar, J0_nar, if_true, if_false, rd_wr_same, rd_wr_ne, true_and, and_true, B_0, B_1, not_true_eq_false, not_false_eq_true, rdW0, wW0, c1, c2, Int.reduceAdd]
        congr 3
        funext i
        unfold fset
        repeat' split
        all_goals first | rfl | omega | (congr 1; omega)
      · 
        simp (disch := first | omega | exact Nat.le_of_ble_eq_true rfl) only [e39_0, e39_1, e39_2, e39_5, e39_8, e39_9, e39_10, e39_13, e39_16, e39_17, e39_18, e39_21, e39_24, e39_25, e39_26, e39_27, e39_30, e39_31, e39_32, e39_35, e39_36, e39_37, e39_38, e39_39, e39_42, e39_43, e39_46, e39_47, e39_48, e39_51, e39_52, e39_55, e39_58, e39_61, e39_64, J_add, J_sub, J_mul, J_neg, J_lt, J_le, J_eq, gArr_J, gAst_J, gSiz_J, gFld_o, gUpd_o0, gUpd_o1, gUpd_o2, gUpd_o3, gUpd_o4, gUpd_o5, gUpd_o6, gUpd_o7, gUpd_o8, gUpd_o9, gUpd_o10, gUpd_o11, gUpd_o12, gUpd_o13, gUpd_o14, gUpd_o15, gUpd_o16, gUpd_o17, gUpd_o18, gIsO_o, Option.bind_some, List.getElem?_cons_zero, List.getElem?_cons_succ, List.length_cons, List.length_nil, List.set_cons_zero, List.set_cons_succ, gCat_nil, gCat_int, gCat_ref, if_pos, if_neg, Option.toList_some, Option.toList_none, List.cons_append, List.nil_append, B_nar, J1_nar, J0_nar, if_true, if_false, rd_wr_same, rd_wr_ne, true_and, and_true, B_0, B_1, not_true_eq_false, not_false_eq_true, rdW0, wW0, c1, c2, Int.reduceAdd]
        congr 3
        funext i
        unfold fset
        repeat' split
        all_goals first | rfl | omega | (congr 1; omega)
    by_cases h1 : len = mo
    · subst h1
      simp (disch := first | omega | exact Nat.le_of_ble_eq_true rfl) only [e39_0, e39_1, e39_2, e39_5, e39_8, e39_9, e39_10, e39_13, e39_16, e39_17, e39_18, e39_21, e39_24, e39_25, e39_26, e39_27, e39_30, e39_31, e39_32, e39_36, e39_37, e39_38, e39_39, e39_42, e39_43, e39_46, e39_47, e39_48, e39_51, e39_52, e39_55, e39_58, e39_61, e39_64, J_add, J_sub, J_mul, J_neg, J_lt, J_le, J_eq, gArr_J, gAst_J, gSiz_J, gFld_o, gUpd_o0, gUpd_o1, gUpd_o2, gUpd_o3, gUpd_o4, gUpd_o5, gUpd_o6, gUpd_o7, gUpd_o8, gUpd_o9, gUpd_o10, gUpd_o11, gUpd_o12, gUpd_o13, gUpd_o14, gUpd_o15, gUpd_o16, gUpd_o17, gUpd_o18, gIsO_o, Option.bind_some, List.getElem?_cons_zero, List.getElem?_cons_succ, List.length_cons, List.length_nil, List.set_cons_zero, List.set_cons_succ, gCat_nil, gCat_int, gCat_ref, if_pos, if_neg, Option.toList_some, Option.toList_none, List.cons_append, List.nil_append, B_nar, J1_nar, J0_nar, if_true, if_false, rd_wr_same, rd_wr_ne, true_and, and_true, B_0, B_1, not_true_eq_false, not_false_eq_true, rdW0, wW0, key]
    ·
      simp (disch := first | omega | exact Nat.le_of_ble_eq_true rfl) only [e39_0, e39_1, e39_2, e39_5, e39_8, e39_9, e39_10, e39_13, e39_16, e39_17, e39_18, e39_21, e39_24, e39_25, e39_26, e39_27, e39_30, e39_31, e39_32, e39_36, e39_37, e39_38, e39_39, e39_42, e39_43, e39_46, e39_47, e39_48, e39_51, e39_52, e39_55, e39_58, e39_61, e39_64, J_add, J_sub, J_mul, J_neg, J_lt, J_le, J_eq, gArr_J, gAst_J, gSiz_J, gFld_o, gUpd_o0, gUpd_o1, gUpd_o2, gUpd_o3, gUpd_o4, gUpd_o5, gUpd_o6, gUpd_o7, gUpd_o8, gUpd_o9, gUpd_o10, gUpd_o11, gUpd_o12, gUpd_o13, gUpd_o14, gUpd_o15, gUpd_o16, gUpd_o17, gUpd_o18, gIsO_o, Option.bind_some, List.getElem?_cons_zero, List.getElem?_cons_succ, List.length_cons, List.length_nil, List.set_cons_zero, List.set_cons_succ, gCat_nil, gCat_int, gCat_ref, if_pos, if_neg, Option.toList_some, Option.toList_none, List.cons_append, List.nil_append, B_nar, J1_nar, J0_nar, if_true, if_false, rd_wr_same, rd_wr_ne, true_and, and_true, B_0, B_1, not_true_eq_false, not_false_eq_true, rdW0, wW0, key]
