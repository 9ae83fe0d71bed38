def pI (t : Int) (X K : Lay) (PT : Nat → Lay) (M : Lay) : Prop := ∀ i, 0 ≤ i → i < X 0 1 → (vS K (PT ((X 0 2 + i) % 8).toNat) ∧ (PT ((X 0 2 + i) % 8).toNat) 0 0 ≤ 24 * t) ∧ mRow K (PT ((X 0 2 + i) % 8).toNat) (fun k => M 8 (17 * ((M 0 4 - X 0 1 + i) % 8) + k))
def kI (t : Int) (X K : Lay) (KT : Nat → Lay) (M : Lay) : Prop := ∀ i, 0 ≤ i → i < X 0 3 → (vS K (KT i.toNat) ∧ (KT i.toNat) 0 0 ≤ 24 * t) ∧ mRow K (KT i.toNat) (fun k => M 12 (17 * i + k))
def sI (X K M : Lay) : Prop := ∀ i, 0 ≤ i → i < X 0 4 → (0 ≤ X 2 i ∧ X 2 i < K 0 0) ∧ (0 ≤ X 3 i ∧ X 3 i < K 0 0) ∧ (0 ≤ X 4 i ∧ X 4 i ≤ 1) ∧ X 2 i ≠ X 3 i ∧ M 9 i = X 2 i ∧ M 10 i = X 3 i ∧ M 11 i = X 4 i
def tI (X M : Lay) : Prop := ∀ i, 0 ≤ i → i < X 0 0 → M 1 i = X 1 i
/-- both sides stand alike -/
def stI (t : Int) (X K S : Lay) (PT KT : Nat → Lay) (M : Lay) : Prop := rX X ∧ vK K ∧ (1 ≤ K 0 1 ∧ 1 ≤ K 0 2) ∧ (vS K S ∧ S 0 0 ≤ 24 * t) ∧ pI t X K PT M ∧ kI t X K KT M ∧ sI X K M ∧ tI X M ∧ mLaw K (M 5) ∧ mRow K S (M 6) ∧ (M 0 0 = X 0 0 ∧ M 0 3 = X 0 1 ∧ (0 ≤ M 0 4 ∧ M 0 4 < 8) ∧ M 0 5 = X 0 4 ∧ M 0 6 = X 0 3)
theorem stI_mono {t u : Int} {X K S : Lay} {PT KT : Nat → Lay} {M : Lay} (hI : stI t X K S PT KT M) (h : t ≤ u) : stI u X K S PT KT M := by
  obtain ⟨iR, hK, hk, ⟨hS, hH⟩, iP, iKp, iE, iT, hL, hR, hm⟩ := hI
  exact ⟨iR, hK, hk, ⟨hS, by omega⟩, fun i i1 i2 => ⟨⟨(iP i i1 i2).1.1, by have := (iP i i1 i2).1.2; omega⟩, (iP i i1 i2).2⟩, fun i i1 i2 => ⟨⟨(iKp i i1 i2).1.1, by have := (iKp i i1 i2).1.2; omega⟩, (iKp i i1 i2).2⟩, iE, iT, hL, hR, hm⟩
/-- another standing -/
theorem stI_S {t : Int} {X K S : Lay} {PT KT : Nat → Lay} {M : Lay} (hI : stI t X K S PT KT M) {T : Lay} {f : Int → Int} (hT : vS K T) (hh : T 0 0 ≤ 24 * t) (hf : mRow K T f) : stI t X K T PT KT (rset M 6 f) := by
  obtain ⟨iR, hK, hk, hS, iP, iKp, iE, iT, hL, hR, hm⟩ := hI
  refine ⟨iR, hK, hk, ⟨hT, hh⟩, ?_, ?_, ?_, ?_, ?_, ?_, ?_⟩
  · unfold pI
    rw [rset_ne (show (8 : Int) ≠ 6 by decide), rset_ne (show (0 : Int) ≠ 6 by decide)]
    exact iP
  · unfold kI
    rw [rset_ne (show (12 : Int) ≠ 6 by decide)]
    exact iKp
  · unfold sI
    rw [rset_ne (show (9 : Int) ≠ 6 by decide), rset_ne (show (10 : Int) ≠ 6 by decide), rset_ne (show (11 : Int) ≠ 6 by decide)]
    exact iE
  · unfold tI
    rw [rset_ne (show (1 : Int) ≠ 6 by decide)]
    exact iT
  · rw [rset_ne (show (5 : Int) ≠ 6 by decide)]
    exact hL
  · rw [rset_at]
    exact hf
  · rw [rset_ne (show (0 : Int) ≠ 6 by decide)]
    exact hm
theorem stI_7 {t : Int} {X K S : Lay} {PT KT : Nat → Lay} {M : Lay} (hI : stI t X K S PT KT M) {a : Int} (ha : a = 7 ∨ a = 2 ∨ a = 3 ∨ a = 4) {f : Int → Int} : stI t X K S PT KT (rset M a f) := by
  obtain ⟨iR, hK, hk, hS, iP, iKp, iE, iT, hL, hR, hm⟩ := hI
  refine ⟨iR, hK, hk, hS, ?_, ?_, ?_, ?_, ?_, ?_, ?_⟩
  · unfold pI
    rw [rset_ne (show (8 : Int) ≠ a by omega), rset_ne (show (0 : Int) ≠ a by omega)]
    exact iP
  · unfold kI
    rw [rset_ne (show (12 : Int) ≠ a by omega)]
    exact iKp
  · unfold sI
    rw [rset_ne (show (9 : Int) ≠ a by omega), rset_ne (show (10 : Int) ≠ a by omega), rset_ne (show (11 : Int) ≠ a by omega)]
    exact iE
  · unfold tI
    rw [rset_ne (show (1 : Int) ≠ a by omega)]
    exact iT
  · rw [rset_ne (show (5 : Int) ≠ a by omega)]
    exact hL
  · rw [rset_ne (show (6 : Int) ≠ a by omega)]
    exact hR
  · rw [rset_ne (show (0 : Int) ≠ a by omega)]
    exact hm
/-- put by on both sides -/
theorem stI_rem {t : Int} {X K S : Lay} {PT KT : Nat → Lay} {M : Lay} (hI : stI t X K S PT KT M) : stI t (pX X) K S (pT X S PT) KT (remM M) := by
  obtain ⟨iR, hK, hk, ⟨hS, hH⟩, iP, iKp, iE, iT, hL, hR, ⟨m0, m3, m4, m5, m6⟩⟩ := hI
  obtain ⟨r0, r1, r2, r3, r4, r5⟩ := iR
  have e00 : pX X 0 0 = X 0 0 := by
    unfold pX
    split <;> simp [sset]
  have e03 : pX X 0 3 = X 0 3 := by
    unfold pX
    split <;> simp [sset]
  have e04 : pX X 0 4 = X 0 4 := by
    unfold pX
    split <;> simp [sset]
  have e01 : pX X 0 1 = if X 0 1 < 8 then X 0 1 + 1 else X 0 1 := by
    unfold pX
    split <;> simp [sset]
  have e02 : pX X 0 2 = if X 0 1 < 8 then X 0 2 else (X 0 2 + 1) % 8 := by
    unfold pX
    split <;> simp [sset]
  have er : ∀ a i : Int, a ≠ 0 → pX X a i = X a i := by
    intro a i ha
    unfold pX
    split
    · rw [sset_row ha]
    · rw [sset_row ha]
  have f8 : remM M 8 = cpR (M 6) (M 8) (17 * M 0 4) 17 := by
    unfold remM
    rw [rset_ne (by decide), rset_at]
  have f0 : remM M 0 = f7 (M 0 0) (M 0 1) (M 0 2) (if M 0 3 < 8 then M 0 3 + 1 else M 0 3) ((M 0 4 + 1) % 8) (M 0 5) (M 0 6) := by
    unfold remM
    rw [rset_at]
  have fr : ∀ a : Int, a ≠ 0 → a ≠ 8 → remM M a = M a := by
    intro a h1 h2
    unfold remM
    rw [rset_ne h1, rset_ne h2]
  refine ⟨⟨by rw [e00]; exact r0, fun i i1 i2 => by rw [er 1 i (by decide)]; exact r1 i i1 i2, by rw [e01]; split <;> omega, by rw [e02]; split <;> omega, by rw [e03]; exact r4, by rw [e04]; exact r5⟩, hK, hk, ⟨hS, hH⟩, ?_, ?_, ?_, ?_, ?_, ?_, ?_⟩
  · intro i i1 i2
    rw [e01] at i2
    rw [e01, e02, f8, f0, f7_4]
    by_cases q : X 0 1 < 8
    · rw [if_pos q] at i2
      rw [if_pos q, if_pos q]
      by_cases qi : i = X 0 1
      · have e : (pT X S PT) ((X 0 2 + i) % 8).toNat = S := by
          unfold pT
          rw [if_pos q, if_pos (by rw [qi])]
        rw [e]
        refine ⟨⟨hS, hH⟩, mRow_congr hK hR (fun k k1 k2 => ?_)⟩
        have ei : ((M 0 4 + 1) % 8 - (X 0 1 + 1) + i) % 8 = M 0 4 := by omega
        rw [ei, cpR_at _ _ _ _ (by omega), show 17 * M 0 4 + k - 17 * M 0 4 = k from by omega]
      · have hp := iP i i1 (by omega)
        have e : (pT X S PT) ((X 0 2 + i) % 8).toNat = PT ((X 0 2 + i) % 8).toNat := by
          unfold pT
          rw [if_pos q, if_neg (by omega)]
        rw [e]
        refine ⟨hp.1, mRow_congr hK hp.2 (fun k k1 k2 => ?_)⟩
        have ei : ((M 0 4 + 1) % 8 - (X 0 1 + 1) + i) % 8 = (M 0 4 - X 0 1 + i) % 8 := by omega
        rw [ei, cpR_ne _ _ _ _ (by omega)]
    · rw [if_neg q] at i2
      rw [if_neg q, if_neg q]
      by_cases qi : i = 7
      · have e : (pT X S PT) (((X 0 2 + 1) % 8 + i) % 8).toNat = S := by
          unfold pT
          rw [if_neg q, if_pos (by omega)]
        rw [e]
        refine ⟨⟨hS, hH⟩, mRow_congr hK hR (fun k k1 k2 => ?_)⟩
        have ei : ((M 0 4 + 1) % 8 - X 0 1 + i) % 8 = M 0 4 := by omega
        rw [ei, cpR_at _ _ _ _ (by omega), show 17 * M 0 4 + k - 17 * M 0 4 = k from by omega]
      · have hp := iP (i + 1) (by omega) (by omega)
        have e : (pT X S PT) (((X 0 2 + 1) % 8 + i) % 8).toNat = PT ((X 0 2 + (i + 1)) % 8).toNat := by
          unfold pT
          rw [if_neg q, if_neg (by omega), show ((X 0 2 + 1) % 8 + i) % 8 = (X 0 2 + (i + 1)) % 8 from by omega]
        rw [e]
        refine ⟨hp.1, mRow_congr hK hp.2 (fun k k1 k2 => ?_)⟩
        have ei : ((M 0 4 + 1) % 8 - X 0 1 + i) % 8 = (M 0 4 - X 0 1 + (i + 1)) % 8 := by omega
        rw [ei, cpR_ne _ _ _ _ (by omega)]
  · unfold kI
    rw [e03, fr 12 (by decide) (by decide)]
    exact iKp
  · intro i i1 i2
    rw [e04] at i2
    rw [er 2 i (by decide), er 3 i (by decide), er 4 i (by decide), fr 9 (by decide) (by decide), fr 10 (by decide) (by decide), fr 11 (by decide) (by decide)]
    exact iE i i1 i2
  · intro i i1 i2
    rw [e00] at i2
    rw [er 1 i (by decide), fr 1 (by decide) (by decide)]
    exact iT i i1 i2
  · rw [fr 5 (by decide) (by decide)]
    exact hL
  · rw [fr 6 (by decide) (by decide)]
    exact hR
  · rw [f0, f7_0, f7_3, f7_4, f7_5, f7_6, e00, e01, e03, e04, m3]
    exact ⟨m0, rfl, by omega, m5, m6⟩
theorem remM_6 {M : Lay} : remM M 6 = M 6 := by
  unfold remM
  rw [rset_ne (by decide), rset_ne (by decide)]
theorem remM_5 {M : Lay} : remM M 5 = M 5 := by
  unfold remM
  rw [rset_ne (by decide), rset_ne (by decide)]

theorem z160 {nat : gNat} {d : Nat} {w : gWd} {x : Nat} {t : Int} {X K S : Lay} {PT KT : Nat → Lay} {M : Lay} (hx : x + 12 < gSTR) (hI : stI t X K S PT KT M) (ht : t ≤ 1000) {y g : Int} (h_y : -2147483648 ≤ y ∧ y < 2147483648) (h_g : -2147483648 ≤ g ∧ g < 2147483648) : ∃ M', gC nat (d + 5) 160 [.ref x, .int (J y), .int (J g)] (putM w x M) = some (some (.int (J (aSnd K S y g))), putM w x M') ∧ stI t (if sndC K S y g then pX X else X) K (if sndC K S y g then sset S 2 y (gol g) else S) (if sndC K S y g then pT X S PT else PT) KT M' := by
  obtain ⟨iR, hK, ⟨k1p, k2p⟩, ⟨hS, hH⟩, iP, iKp, iE, iT, hL, hR, ⟨m0, m3, m4, m5, m6⟩⟩ := id hI
  obtain ⟨k0, k1, k2, k3, k4, kg, kd, kr⟩ := id hK
  obtain ⟨f0, f1, f2, f3, f4, fr, fg, fd⟩ := id hL
  have c1 := s139 (nat := nat) (d := d + 2) (w := w) hx hL hK h_y
  have c2 := s138 (nat := nat) (d := d + 2) (w := w) hx hL hK h_g
  unfold aSnd
  rw [en160]
  by_cases q1 : 0 ≤ y ∧ y ≤ K 0 2 - 1
  · rw [B_pos q1] at c1
    by_cases q2 : g = -1 ∨ (0 ≤ g ∧ g ≤ K 0 1 - 1)
    · rw [if_pos (show sndI K y g from ⟨q1, q2⟩)]
      have hgl : gol g = if g < 0 then -4 else g := by
        unfold gol
        by_cases z : g = -1
        · rw [if_pos z, if_pos (by omega)]
        · rw [if_neg z, if_neg (by omega)]
      have hs2 := hS.2.2.1 y q1.1 (by omega)
      have c3 := s159 (nat := nat) (d := d + 1) (w := w) hx hL hK (r := 6) (Or.inl rfl) hR hS (y := y) (g := g) (by omega) (by omega)
      have hB : sndB K S y g ↔ ¬ (S 2 y ≠ (if g < 0 then -4 else g) ∧ (g < 0 ∨ ¬ K 1 (5 * g + 4) ≤ S 1 g)) := by
        unfold sndB
        rw [hgl]
        by_cases z : g < 0
        · rw [if_pos z]
          constructor
          · intro h1 h2
            rcases h1 with h1 | h1
            · exact h2.1 h1
            · exact h1.1 rfl
          · intro h1
            by_cases h3 : S 2 y = -4
            · exact Or.inl h3
            · exact absurd ⟨h3, Or.inl z⟩ h1
        · rw [if_neg z]
          constructor
          · intro h1 h2
            rcases h1 with h1 | h1
            · exact h2.1 h1
            · exact h2.2.elim z (fun h3 => h3 h1.2)
          · intro h1
            by_cases h3 : S 2 y = g
            · exact Or.inl h3
            · by_cases h4 : K 1 (5 * g + 4) ≤ S 1 g
              · exact Or.inr ⟨by omega, h4⟩
              · exact absurd ⟨h3, Or.inr h4⟩ h1
      by_cases q3 : S 2 y ≠ (if g < 0 then -4 else g) ∧ (g < 0 ∨ ¬ K 1 (5 * g + 4) ≤ S 1 g)
      · rw [B_pos q3] at c3
        have hnB : ¬ sndB K S y g := fun z => hB.mp z q3
        rw [if_neg hnB]
        have hC : sndC K S y g := ⟨⟨q1, q2⟩, hnB⟩
        rw [if_pos hC, if_pos hC, if_pos hC]
        have c4 := s158 (nat := nat) (d := d + 3) (w := w) (M := M) hx m4 (by rw [m3]; exact iR.2.2.1)
        have p1 := (hR.2.2 y q1.1 (by omega)).2
        have fin : stI t (pX X) K (sset S 2 y (gol g)) (pT X S PT) KT (rset (remM M) 6 (fset (M 6) (13 + y) (gol g))) := by
          refine stI_S (stI_rem hI) (vS_aim hK hS (by omega) ?_) (by rw [sset_row (by decide)]; exact hH) (mRow_sent hR hK (by omega))
          rw [hgl]
          by_cases z : g < 0
          · rw [if_pos z]
            exact Or.inl rfl
          · rw [if_neg z]
            refine Or.inr ⟨by omega, by omega, ?_⟩
            rcases q3.2 with h | h
            · exact absurd h z
            · omega
        refine ⟨_, ?_, fin⟩
        rw [hgl]
        by_cases z : g < 0
        · have zz : g = -1 := by omega
          subst zz
          rw [if_pos z]
          simp (disch := first | omega | exact Nat.le_of_ble_eq_true rfl) only [e160_0, e160_1, e160_2, e160_5, e160_8, e160_9, e160_10, e160_13, e160_14, e160_15, e160_18, e160_21, e160_22, e160_23, e160_24, e160_25, e160_28, e160_29, e160_30, e160_33, e160_36, e160_38, e160_39, e160_40, e160_43, e160_44, e160_47, e160_49, e160_50, e160_51, e160_52, e160_53, e160_54, e160_57, e160_59, e160_60, e160_61, e160_62, e160_65, e160_67, e160_70, e160_71, e160_72, e160_73, J_add, J_sub, J_mul, J_neg, J_lt, J_le, J_eq, gArr_J, gAst_J, gSiz_J, gFld_o, gUpd_o0, gUpd_o1, gUpd_o2, gUpd_o3, gUpd_o4, gUpd_o5, gUpd_o6, gUpd_o7, gUpd_o8, gUpd_o9, gUpd_o10, gUpd_o11, gUpd_o12, gUpd_o13, gUpd_o14, gUpd_o15, gUpd_o16, gUpd_o17, gUpd_o18, gIsO_o, Option.bind_some, List.getElem?_cons_zero, List.getElem?_cons_succ, List.length_cons, List.length_nil, List.set_cons_zero, List.set_cons_succ, gCat_nil, gCat_int, gCat_ref, if_pos, if_neg, Option.toList_some, Option.toList_none, List.cons_append, List.nil_append, B_nar, J1_nar, J0_nar, if_true, if_false, rd_wr_same, rd_wr_ne, true_and, and_true, B_0, B_1, not_true_eq_false, not_false_eq_true, rdM0, rdM1, rdM2, rdM3, rdM4, rdM5, rdM6, rdM7, rdM8, rdM9, rdM10, rdM11, rdM12, rset_at, rset_ne, rset_rset, w0M, wZ1, wZ2, wZ3, wZ4, wZ5, wZ6, wZ7, wZ8, wZ9, wZ10, wZ11, wZ12, f7_0, f7_1, f7_2, f7_3, f7_4, f7_5, f7_6, c1, c2, c3, c4, p1, remM_6]
        · rw [if_neg z]
          rw [B_pos (show 0 ≤ g ∧ g ≤ K 0 1 - 1 by omega)] at c2
          simp (disch := first | omega | exact Nat.le_of_ble_eq_true rfl) only [e160_0, e160_1, e160_2, e160_5, e160_8, e160_9, e160_10, e160_13, e160_14, e160_15, e160_18, e160_21, e160_22, e160_23, e160_24, e160_25, e160_28, e160_29, e160_30, e160_33, e160_36, e160_38, e160_39, e160_40, e160_43, e160_44, e160_47, e160_49, e160_50, e160_51, e160_52, e160_53, e160_54, e160_57, e160_59, e160_60, e160_61, e160_62, e160_65, e160_67, e160_70, e160_71, e160_72, e160_73, J_add, J_sub, J_mul, J_neg, J_lt, J_le, J_eq, gArr_J, gAst_J, gSiz_J, gFld_o, gUpd_o0, gUpd_o1, gUpd_o2, gUpd_o3, gUpd_o4, gUpd_o5, gUpd_o6, gUpd_o7, gUpd_o8, gUpd_o9, gUpd_o10, gUpd_o11, gUpd_o12, gUpd_o13, gUpd_o14, gUpd_o15, gUpd_o16, gUpd_o17, gUpd_o18, gIsO_o, Option.bind_some, List.getElem?_cons_zero, List.getElem?_cons_succ, List.length_cons, List.length_nil, List.set_cons_zero, List.set_cons_succ, gCat_nil, gCat_int, gCat_ref, if_pos, if_neg, Option.toList_some, Option.toList_none, List.cons_append, List.nil_append, B_nar, J1_nar, J0_nar, if_true, if_false, rd_wr_same, rd_wr_ne, true_and, and_true, B_0, B_1, not_true_eq_false, not_false_eq_true, rdM0, rdM1, rdM2, rdM3, rdM4, rdM5, rdM6, rdM7, rdM8, rdM9, rdM10, rdM11, rdM12, rset_at, rset_ne, rset_rset, w0M, wZ1, wZ2, wZ3, wZ4, wZ5, wZ6, wZ7, wZ8, wZ9, wZ10, wZ11, wZ12, f7_0, f7_1, f7_2, f7_3, f7_4, f7_5, f7_6, c1, c2, c3, c4, p1, remM_6]
      · rw [B_neg q3] at c3
        rw [if_pos (hB.mpr q3)]
        have hC : ¬ sndC K S y g := fun z => z.2 (hB.mpr q3)
        rw [if_neg hC, if_neg hC, if_neg hC]
        refine ⟨M, ?_, hI⟩
        by_cases z : g < 0
        · have zz : g = -1 := by omega
          subst zz
          simp (disch := first | omega | exact Nat.le_of_ble_eq_true rfl) only [e160_0, e160_1, e160_2, e160_5, e160_8, e160_9, e160_10, e160_13, e160_14, e160_15, e160_18, e160_21, e160_22, e160_23, e160_24, e160_25, e160_28, e160_29, e160_30, e160_33, e160_36, e160_38, e160_39, e160_40, e160_43, e160_44, e160_47, e160_49, e160_50, e160_51, e160_52, e160_53, e160_54, e160_57, e160_59, e160_60, e160_61, e160_62, e160_65, e160_67, e160_70, e160_71, e160_72, e160_73, J_add, J_sub, J_mul, J_neg, J_lt, J_le, J_eq, gArr_J, gAst_J, gSiz_J, gFld_o, gUpd_o0, gUpd_o1, gUpd_o2, gUpd_o3, gUpd_o4, gUpd_o5, gUpd_o6, gUpd_o7, gUpd_o8, gUpd_o9, gUpd_o10, gUpd_o11, gUpd_o12, gUpd_o13, gUpd_o14, gUpd_o15, gUpd_o16, gUpd_o17, gUpd_o18, gIsO_o, Option.bind_some, List.getElem?_cons_zero, List.getElem?_cons_succ, List.length_cons, List.length_nil, List.set_cons_zero, List.set_cons_succ, gCat_nil, gCat_int, gCat_ref, if_pos, if_neg, Option.toList_some, Option.toList_none, List.cons_append, List.nil_append, B_nar, J1_nar, J0_nar, if_true, if_false, rd_wr_same, rd_wr_ne, true_and, and_true, B_0, B_1, not_true_eq_false, not_false_eq_true, rdM0, rdM1, rdM2, rdM3, rdM4, rdM5, rdM6, rdM7, rdM8, rdM9, rdM10, rdM11, rdM12, rset_at, rset_ne, rset_rset, w0M, wZ1, wZ2, wZ3, wZ4, wZ5, wZ6, wZ7, wZ8, wZ9, wZ10, wZ11, wZ12, f7_0, f7_1, f7_2, f7_3, f7_4, f7_5, f7_6, c1, c2, c3]
        · rw [B_pos (show 0 ≤ g ∧ g ≤ K 0 1 - 1 by omega)] at c2
          simp (disch := first | omega | exact Nat.le_of_ble_eq_true rfl) only [e160_0, e160_1, e160_2, e160_5, e160_8, e160_9, e160_10, e160_13, e160_14, e160_15, e160_18, e160_21, e160_22, e160_23, e160_24, e160_25, e160_28, e160_29, e160_30, e160_33, e160_36, e160_38, e160_39, e160_40, e160_43, e160_44, e160_47, e160_49, e160_50, e160_51, e160_52, e160_53, e160_54, e160_57, e160_59, e160_60, e160_61, e160_62, e160_65, e160_67, e160_70, e160_71, e160_72, e160_73, J_add, J_sub, J_mul, J_neg, J_lt, J_le, J_eq, gArr_J, gAst_J, gSiz_J, gFld_o, gUpd_o0, gUpd_o1, gUpd_o2, gUpd_o3, gUpd_o4, gUpd_o5, gUpd_o6, gUpd_o7, gUpd_o8, gUpd_o9, gUpd_o10, gUpd_o11, gUpd_o12, gUpd_o13, gUpd_o14, gUpd_o15, gUpd_o16, gUpd_o17, gUpd_o18, gIsO_o, Option.bind_some, List.getElem?_cons_zero, List.getElem?_cons_succ, List.length_cons, List.length_nil, List.set_cons_zero, List.set_cons_succ, gCat_nil, gCat_int, gCat_ref, if_pos, if_neg, Option.toList_some, Option.toList_none, List.cons_append, List.nil_append, B_nar, J1_nar, J0_nar, if_true, if_false, rd_wr_same, rd_wr_ne, true_and, and_true, B_0, B_1, not_true_eq_false, not_false_eq_true, rdM0, rdM1, rdM2, rdM3, rdM4, rdM5, rdM6, rdM7, rdM8, rdM9, rdM10, rdM11, rdM12, rset_at, rset_ne, rset_rset, w0M, wZ1, wZ2, wZ3, wZ4, wZ5, wZ6, wZ7, wZ8, wZ9, wZ10, wZ11, wZ12, f7_0, f7_1, f7_2, f7_3, f7_4, f7_5, f7_6, c1, c2, c3]
    · have hI' : ¬ sndI K y g := fun z => q2 z.2
      have hC : ¬ sndC K S y g := fun z => hI' z.1
      rw [if_neg hI', if_neg hC, if_neg hC, if_neg hC]
      rw [B_neg (fun z => q2 (Or.inr z))] at c2
      refine ⟨M, ?_, hI⟩
      simp (disch := first | omega | exact Nat.le_of_ble_eq_true rfl) only [e160_0, e160_1, e160_2, e160_5, e160_8, e160_9, e160_10, e160_13, e160_14, e160_15, e160_18, e160_21, e160_22, e160_23, e160_24, e160_25, e160_28, e160_29, e160_30, e160_33, e160_36, e160_38, e160_39, e160_40, e160_43, e160_44, e160_47, e160_49, e160_50, e160_51, e160_52, e160_53, e160_54, e160_57, e160_59, e160_60, e160_61, e160_62, e160_65, e160_67, e160_70, e160_71, e160_72, e160_73, J_add, J_sub, J_mul, J_neg, J_lt, J_le, J_eq, gArr_J, gAst_J, gSiz_J, gFld_o, gUpd_o0, gUpd_o1, gUpd_o2, gUpd_o3, gUpd_o4, gUpd_o5, gUpd_o6, gUpd_o7, gUpd_o8, gUpd_o9, gUpd_o10, gUpd_o11, gUpd_o12, gUpd_o13, gUpd_o14, gUpd_o15, gUpd_o16, gUpd_o17, gUpd_o18, gIsO_o, Option.bind_some, List.getElem?_cons_zero, List.getElem?_cons_succ, List.length_cons, List.length_nil, List.set_cons_zero, List.set_cons_succ, gCat_nil, gCat_int, gCat_ref, if_pos, if_neg, Option.toList_some, Option.toList_none, List.cons_append, List.nil_append, B_nar, J1_nar, J0_nar, if_true, if_false, rd_wr_same, rd_wr_ne, true_and, and_true, B_0, B_1, not_true_eq_false, not_false_eq_true, rdM0, rdM1, rdM2, rdM3, rdM4, rdM5, rdM6, rdM7, rdM8, rdM9, rdM10, rdM11, rdM12, rset_at, rset_ne, rset_rset, w0M, wZ1, wZ2, wZ3, wZ4, wZ5, wZ6, wZ7, wZ8, wZ9, wZ10, wZ11, wZ12, f7_0, f7_1, f7_2, f7_3, f7_4, f7_5, f7_6, c1, c2]
  · have hI' : ¬ sndI K y g := fun z => q1 z.1
    have hC : ¬ sndC K S y g := fun z => hI' z.1
    rw [if_neg hI', if_neg hC, if_neg hC, if_neg hC]
    rw [B_neg q1] at c1
    refine ⟨M, ?_, hI⟩
    simp (disch := first | omega | exact Nat.le_of_ble_eq_true rfl) only [e160_0, e160_1, e160_2, e160_5, e160_8, e160_9, e160_10, e160_13, e160_14, e160_15, e160_18, e160_21, e160_22, e160_23, e160_24, e160_25, e160_28, e160_29, e160_30, e160_33, e160_36, e160_38, e160_39, e160_40, e160_43, e160_44, e160_47, e160_49, e160_50, e160_51, e160_52, e160_53, e160_54, e160_57, e160_59, e160_60, e160_61, e160_62, e160_65, e160_67, e160_70, e160_71, e160_72, e160_73, J_add, J_sub, J_mul, J_neg, J_lt, J_le, J_eq, gArr_J, gAst_J, gSiz_J, gFld_o, gUpd_o0, gUpd_o1, gUpd_o2, gUpd_o3, gUpd_o4, gUpd_o5, gUpd_o6, gUpd_o7, gUpd_o8, gUpd_o9, gUpd_o10, gUpd_o11, gUpd_o12, gUpd_o13, gUpd_o14, gUpd_o15, gUpd_o16, gUpd_o17, gUpd_o18, gIsO_o, Option.bind_some, List.getElem?_cons_zero, List.getElem?_cons_succ, List.length_cons, List.length_nil, List.set_cons_zero, List.set_cons_succ, gCat_nil, gCat_int, gCat_ref, if_pos, if_neg, Option.toList_some, Option.toList_none, List.cons_append, List.nil_append, B_nar, J1_nar, J0_nar, if_true, if_false, rd_wr_same, rd_wr_ne, true_and, and_true, B_0, B_1, not_true_eq_false, not_false_eq_true, rdM0, rdM1, rdM2, rdM3, rdM4, rdM5, rdM6, rdM7, rdM8, rdM9, rdM10, rdM11, rdM12, rset_at, rset_ne, rset_rset, w0M, wZ1, wZ2, wZ3, wZ4, wZ5, wZ6, wZ7, wZ8, wZ9, wZ10, wZ11, wZ12, f7_0, f7_1, f7_2, f7_3, f7_4, f7_5, f7_6, c1]

theorem z161 {nat : gNat} {d : Nat} {w : gWd} {x : Nat} {t : Int} {X K S : Lay} {PT KT : Nat → Lay} {M : Lay} (hx : x + 12 < gSTR) (hI : stI t X K S PT KT M) (ht : t ≤ 1000) {n : Int} (h_n : -2147483648 ≤ n ∧ n < 2147483648) : ∃ M', gC nat (d + 6) 161 [.ref x, .int (J n)] (putM w x M) = some (some (.int (J (if 1 ≤ n ∧ n ≤ 24 then S 0 0 + n else -1))), putM w x M') ∧ stI (t + 1) (if 1 ≤ n ∧ n ≤ 24 then pX X else X) K (if 1 ≤ n ∧ n ≤ 24 then lives K S n.toNat else S) (if 1 ≤ n ∧ n ≤ 24 then pT X S PT else PT) KT M' := by
  obtain ⟨iR, hK, ⟨k1p, k2p⟩, ⟨hS, hH⟩, iP, iKp, iE, iT, hL, hR, ⟨m0, m3, m4, m5, m6⟩⟩ := id hI
  obtain ⟨k0, k1, k2, k3, k4, kg, kd, kr⟩ := id hK
  obtain ⟨f0, f1, f2, f3, f4, fr, fg, fd⟩ := id hL
  have c1 := s122 (nat := nat) (d := d + 4) (w := (putM w x M)) (v := n) (l := 1) (h := 24) (by omega) (by omega) (by omega)
  rw [en161]
  by_cases q : 1 ≤ n ∧ n ≤ 24
  · rw [B_pos q] at c1
    rw [if_pos q, if_pos q, if_pos q, if_pos q]
    have c4 := s158 (nat := nat) (d := d + 4) (w := w) (M := M) hx m4 (by rw [m3]; exact iR.2.2.1)
    have s0 := hS.1
    have hh := lives_h K S n.toNat
    obtain ⟨f', g1, g2⟩ := l161 (nat := nat) (d := d) (w := w) (M := remM M) hx (by rw [remM_5]; exact hL) hK hS ⟨s0, by omega⟩ (N := n.toNat) (by omega) n.toNat 0 (M 6) (by omega) hR
    rw [show rset (remM M) 6 (M 6) = remM M from by rw [← remM_6 (M := M), rset_self], show ((0 : Nat) : Int) = 0 from rfl, show ((n.toNat : Nat) : Int) = n from by omega] at g1
    refine ⟨_, ?_, stI_S (stI_mono (stI_rem hI) (by omega)) (vS_lives hK hS _) (by omega) g2⟩
    simp (disch := first | omega | exact Nat.le_of_ble_eq_true rfl) only [e161_0, e161_1, e161_2, e161_4, e161_7, e161_10, e161_11, e161_12, e161_13, e161_16, e161_17, e161_19, e161_20, e161_23, e161_24, e161_25, e161_28, e161_31, e161_34, e161_37, e161_38, e161_41, e161_42, e161_43, J_add, J_sub, J_mul, J_neg, J_lt, J_le, J_eq, gArr_J, gAst_J, gSiz_J, gFld_o, gUpd_o0, gUpd_o1, gUpd_o2, gUpd_o3, gUpd_o4, gUpd_o5, gUpd_o6, gUpd_o7, gUpd_o8, gUpd_o9, gUpd_o10, gUpd_o11, gUpd_o12, gUpd_o13, gUpd_o14, gUpd_o15, gUpd_o16, gUpd_o17, gUpd_o18, gIsO_o, Option.bind_some, List.getElem?_cons_zero, List.getElem?_cons_succ, List.length_cons, List.length_nil, List.set_cons_zero, List.set_cons_succ, gCat_nil, gCat_int, gCat_ref, if_pos, if_neg, Option.toList_some, Option.toList_none, List.cons_append, List.nil_append, B_nar, J1_nar, J0_nar, if_true, if_false, rd_wr_same, rd_wr_ne, true_and, and_true, B_0, B_1, not_true_eq_false, not_false_eq_true, rdM0, rdM1, rdM2, rdM3, rdM4, rdM5, rdM6, rdM7, rdM8, rdM9, rdM10, rdM11, rdM12, rset_at, rset_ne, rset_rset, w0M, wZ1, wZ2, wZ3, wZ4, wZ5, wZ6, wZ7, wZ8, wZ9, wZ10, wZ11, wZ12, f7_0, f7_1, f7_2, f7_3, f7_4, f7_5, f7_6, c1, c4, g1]
  · rw [B_neg q] at c1
    rw [if_neg q, if_neg q, if_neg q, if_neg q]
    refine ⟨M, ?_, stI_mono hI (by omega)⟩
    simp (disch := first | omega | exact Nat.le_of_ble_eq_true rfl) only [e161_0, e161_1, e161_2, e161_4, e161_7, e161_10, e161_11, e161_12, e161_13, e161_16, e161_17, e161_19, e161_20, e161_23, e161_24, e161_25, e161_28, e161_31, e161_34, e161_37, e161_38, e161_41, e161_42, e161_43, J_add, J_sub, J_mul, J_neg, J_lt, J_le, J_eq, gArr_J, gAst_J, gSiz_J, gFld_o, gUpd_o0, gUpd_o1, gUpd_o2, gUpd_o3, gUpd_o4, gUpd_o5, gUpd_o6, gUpd_o7, gUpd_o8, gUpd_o9, gUpd_o10, gUpd_o11, gUpd_o12, gUpd_o13, gUpd_o14, gUpd_o15, gUpd_o16, gUpd_o17, gUpd_o18, gIsO_o, Option.bind_some, List.getElem?_cons_zero, List.getElem?_cons_succ, List.length_cons, List.length_nil, List.set_cons_zero, List.set_cons_succ, gCat_nil, gCat_int, gCat_ref, if_pos, if_neg, Option.toList_some, Option.toList_none, List.cons_append, List.nil_append, B_nar, J1_nar, J0_nar, if_true, if_false, rd_wr_same, rd_wr_ne, true_and, and_true, B_0, B_1, not_true_eq_false, not_false_eq_true, rdM0, rdM1, rdM2, rdM3, rdM4, rdM5, rdM6, rdM7, rdM8, rdM9, rdM10, rdM11, rdM12, rset_at, rset_ne, rset_rset, w0M, wZ1, wZ2, wZ3, wZ4, wZ5, wZ6, wZ7, wZ8, wZ9, wZ10, wZ11, wZ12, f7_0, f7_1, f7_2, f7_3, f7_4, f7_5, f7_6, c1]

theorem z162 {nat : gNat} {d : Nat} {w : gWd} {x : Nat} {t : Int} {X K S : Lay} {PT KT : Nat → Lay} {M : Lay} (hx : x + 12 < gSTR) (hI : stI t X K S PT KT M) (ht : t ≤ 1000) {g : Int} (h_g : -2147483648 ≤ g ∧ g < 2147483648) : ∃ M', gC nat (d + 5) 162 [.ref x, .int (J g)] (putM w x M) = some (some (.int (J (aFrg K S g))), putM w x M') ∧ stI t (if frgC K S g then pX X else X) K (if frgC K S g then sset S 1 g 0 else S) (if frgC K S g then pT X S PT else PT) KT M' := by
  obtain ⟨iR, hK, ⟨k1p, k2p⟩, ⟨hS, hH⟩, iP, iKp, iE, iT, hL, hR, ⟨m0, m3, m4, m5, m6⟩⟩ := id hI
  obtain ⟨k0, k1, k2, k3, k4, kg, kd, kr⟩ := id hK
  obtain ⟨f0, f1, f2, f3, f4, fr, fg, fd⟩ := id hL
  have c1 := s138 (nat := nat) (d := d + 2) (w := w) hx hL hK h_g
  rw [en162]
  unfold aFrg
  by_cases q1 : 0 ≤ g ∧ g ≤ K 0 1 - 1
  · rw [B_pos q1] at c1
    rw [if_pos q1]
    have c2 := s142 (nat := nat) (d := d + 2) (w := w) hx hL hK (r := 6) (Or.inl rfl) hR hS (g := g) (by omega)
    by_cases q2 : K 1 (5 * g + 4) ≤ S 1 g
    · rw [B_pos q2] at c2
      have hC : frgC K S g := ⟨q1, q2⟩
      rw [if_pos q2, if_pos hC, if_pos hC, if_pos hC]
      have c4 := s158 (nat := nat) (d := d + 3) (w := w) (M := M) hx m4 (by rw [m3]; exact iR.2.2.1)
      have vC := vS_cut hK hS (g := g) (by omega)
      have mC := mRow_did hR (v := 0) hK (g := g) (by omega)
      have c5 := t143 (nat := nat) (d := d + 1) (w := w) (M := remM M) hx (by rw [remM_5]; exact hL) hK (r := 6) (Or.inl rfl) mC vC
      rw [show ((6 : Nat) : Int) = 6 from rfl] at c5
      have c6 := s124 (nat := nat) (d := d + 3) (w := putM w x (rset (remM M) 6 (fset (M 6) (1 + g) 0))) (s := cb K (sset S 1 g 0)) (cbs_lt _ _ _ (by omega))
      refine ⟨_, ?_, stI_S (stI_rem hI) vC (by rw [sset_row (by decide)]; exact hH) mC⟩
      simp (disch := first | omega | exact Nat.le_of_ble_eq_true rfl) only [e162_0, e162_1, e162_2, e162_5, e162_8, e162_9, e162_10, e162_11, e162_12, e162_15, e162_16, e162_19, e162_22, e162_24, e162_25, e162_26, e162_29, e162_30, e162_33, e162_34, e162_35, e162_36, e162_37, e162_38, e162_39, e162_40, e162_43, e162_46, e162_49, J_add, J_sub, J_mul, J_neg, J_lt, J_le, J_eq, gArr_J, gAst_J, gSiz_J, gFld_o, gUpd_o0, gUpd_o1, gUpd_o2, gUpd_o3, gUpd_o4, gUpd_o5, gUpd_o6, gUpd_o7, gUpd_o8, gUpd_o9, gUpd_o10, gUpd_o11, gUpd_o12, gUpd_o13, gUpd_o14, gUpd_o15, gUpd_o16, gUpd_o17, gUpd_o18, gIsO_o, Option.bind_some, List.getElem?_cons_zero, List.getElem?_cons_succ, List.length_cons, List.length_nil, List.set_cons_zero, List.set_cons_succ, gCat_nil, gCat_int, gCat_ref, if_pos, if_neg, Option.toList_some, Option.toList_none, List.cons_append, List.nil_append, B_nar, J1_nar, J0_nar, if_true, if_false, rd_wr_same, rd_wr_ne, true_and, and_true, B_0, B_1, not_true_eq_false, not_false_eq_true, rdM0, rdM1, rdM2, rdM3, rdM4, rdM5, rdM6, rdM7, rdM8, rdM9, rdM10, rdM11, rdM12, rset_at, rset_ne, rset_rset, w0M, wZ1, wZ2, wZ3, wZ4, wZ5, wZ6, wZ7, wZ8, wZ9, wZ10, wZ11, wZ12, f7_0, f7_1, f7_2, f7_3, f7_4, f7_5, f7_6, c1, c2, c4, c5, c6, remM_6]
    · rw [B_neg q2] at c2
      have hC : ¬ frgC K S g := fun z => q2 z.2
      rw [if_neg q2, if_neg hC, if_neg hC, if_neg hC]
      refine ⟨M, ?_, hI⟩
      simp (disch := first | omega | exact Nat.le_of_ble_eq_true rfl) only [e162_0, e162_1, e162_2, e162_5, e162_8, e162_9, e162_10, e162_11, e162_12, e162_15, e162_16, e162_19, e162_22, e162_24, e162_25, e162_26, e162_29, e162_30, e162_33, e162_34, e162_35, e162_36, e162_37, e162_38, e162_39, e162_40, e162_43, e162_46, e162_49, J_add, J_sub, J_mul, J_neg, J_lt, J_le, J_eq, gArr_J, gAst_J, gSiz_J, gFld_o, gUpd_o0, gUpd_o1, gUpd_o2, gUpd_o3, gUpd_o4, gUpd_o5, gUpd_o6, gUpd_o7, gUpd_o8, gUpd_o9, gUpd_o10, gUpd_o11, gUpd_o12, gUpd_o13, gUpd_o14, gUpd_o15, gUpd_o16, gUpd_o17, gUpd_o18, gIsO_o, Option.bind_some, List.getElem?_cons_zero, List.getElem?_cons_succ, List.length_cons, List.length_nil, List.set_cons_zero, List.set_cons_succ, gCat_nil, gCat_int, gCat_ref, if_pos, if_neg, Option.toList_some, Option.toList_none, List.cons_append, List.nil_append, B_nar, J1_nar, J0_nar, if_true, if_false, rd_wr_same, rd_wr_ne, true_and, and_true, B_0, B_1, not_true_eq_false, not_false_eq_true, rdM0, rdM1, rdM2, rdM3, rdM4, rdM5, rdM6, rdM7, rdM8, rdM9, rdM10, rdM11, rdM12, rset_at, rset_ne, rset_rset, w0M, wZ1, wZ2, wZ3, wZ4, wZ5, wZ6, wZ7, wZ8, wZ9, wZ10, wZ11, wZ12, f7_0, f7_1, f7_2, f7_3, f7_4, f7_5, f7_6, c1, c2]
  · rw [B_neg q1] at c1
    have hC : ¬ frgC K S g := fun z => q1 z.1
    rw [if_neg q1, if_neg hC, if_neg hC, if_neg hC]
    refine ⟨M, ?_, hI⟩
    simp (disch := first | omega | exact Nat.le_of_ble_eq_true rfl) only [e162_0, e162_1, e162_2, e162_5, e162_8, e162_9, e162_10, e162_11, e162_12, e162_15, e162_16, e162_19, e162_22, e162_24, e162_25, e162_26, e162_29, e162_30, e162_33, e162_34, e162_35, e162_36, e162_37, e162_38, e162_39, e162_40, e162_43, e162_46, e162_49, J_add, J_sub, J_mul, J_neg, J_lt, J_le, J_eq, gArr_J, gAst_J, gSiz_J, gFld_o, gUpd_o0, gUpd_o1, gUpd_o2, gUpd_o3, gUpd_o4, gUpd_o5, gUpd_o6, gUpd_o7, gUpd_o8, gUpd_o9, gUpd_o10, gUpd_o11, gUpd_o12, gUpd_o13, gUpd_o14, gUpd_o15, gUpd_o16, gUpd_o17, gUpd_o18, gIsO_o, Option.bind_some, List.getElem?_cons_zero, List.getElem?_cons_succ, List.length_cons, List.length_nil, List.set_cons_zero, List.set_cons_succ, gCat_nil, gCat_int, gCat_ref, if_pos, if_neg, Option.toList_some, Option.toList_none, List.cons_append, List.nil_append, B_nar, J1_nar, J0_nar, if_true, if_false, rd_wr_same, rd_wr_ne, true_and, and_true, B_0, B_1, not_true_eq_false, not_false_eq_true, rdM0, rdM1, rdM2, rdM3, rdM4, rdM5, rdM6, rdM7, rdM8, rdM9, rdM10, rdM11, rdM12, rset_at, rset_ne, rset_rset, w0M, wZ1, wZ2, wZ3, wZ4, wZ5, wZ6, wZ7, wZ8, wZ9, wZ10, wZ11, wZ12, f7_0, f7_1, f7_2, f7_3, f7_4, f7_5, f7_6, c1]
