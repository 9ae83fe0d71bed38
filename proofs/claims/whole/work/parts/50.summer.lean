abbrev L64 (a : Int) : Int64 := Int64.ofInt a
theorem L_toInt {a : Int} (h : -9223372036854775808 ≤ a ∧ a < 9223372036854775808) : (L64 a).toInt = a := Int64.toInt_ofInt_of_le (by omega) (by omega)
theorem L_J {z : Int} (h : -2147483648 ≤ z ∧ z < 2147483648) : (J z).toInt64 = L64 z := by
  apply Int64.toInt_inj.mp
  rw [Int32.toInt_toInt64, J_toInt h, L_toInt (by omega)]
theorem L_div {a b : Int} (ha : 0 ≤ a ∧ a < 9223372036854775808) (hb : 0 < b ∧ b < 9223372036854775808) : L64 a / L64 b = L64 (a / b) := by
  apply Int64.toInt_inj.mp
  rw [Int64.toInt_div_of_ne_left _ _ (fun e => by
    have h := congrArg Int64.toInt e
    rw [L_toInt (by omega), show (Int64.minValue).toInt = -9223372036854775808 from by decide +kernel] at h
    omega), L_toInt (by omega), L_toInt (by omega), Int.tdiv_eq_ediv_of_nonneg ha.1, L_toInt]
  have h1 : 0 ≤ a / b := Int.ediv_nonneg ha.1 (by omega)
  have h2 : a / b ≤ a := Int.ediv_le_self b ha.1
  omega
theorem L_32 {a : Int} (h : 0 ≤ a ∧ a < 65521) : (L64 a).toInt32 = J a := by
  apply Int32.toInt_inj.mp
  rw [Int64.toInt_toInt32, L_toInt (by omega), J_toInt (by omega)]
  exact Int.bmod_eq_of_le (by omega) (by omega)
def dNum (z k : Int) : Int := (7919 * z + 6151 * k + 1) * (7919 * z + 6151 * k + 1) % 65521
theorem dNum_in (z k : Int) : 0 ≤ dNum z k ∧ dNum z k < 65521 := ⟨Int.emod_nonneg _ (by decide), Int.emod_lt_of_pos _ (by decide)⟩
theorem drw {z k : Int} (hz : 0 ≤ z ∧ z ≤ 9999) (hk : 0 ≤ k ∧ k < 60) : ((7919 * (J z).toInt64 + 6151 * (J k).toInt64 + 1) * (7919 * (J z).toInt64 + 6151 * (J k).toInt64 + 1) - (7919 * (J z).toInt64 + 6151 * (J k).toInt64 + 1) * (7919 * (J z).toInt64 + 6151 * (J k).toInt64 + 1) / 65521 * 65521 : Int64).toInt32 = J (dNum z k) := by
  rw [L_J (by omega), L_J (by omega)]
  have e1 : (7919 * L64 z + 6151 * L64 k + 1 : Int64) = L64 (7919 * z + 6151 * k + 1) := by
    unfold L64
    rw [Int64.ofInt_add, Int64.ofInt_add, Int64.ofInt_mul, Int64.ofInt_mul]
    rfl
  rw [e1]
  have hn : 0 ≤ 7919 * z + 6151 * k + 1 ∧ 7919 * z + 6151 * k + 1 ≤ 80000000 := by omega
  unfold dNum
  generalize 7919 * z + 6151 * k + 1 = n at *
  have h1 : 0 ≤ n * n := Int.mul_nonneg hn.1 hn.1
  have h2 : n * n ≤ 80000000 * 80000000 := Int.mul_le_mul hn.2 hn.2 hn.1 (by decide)
  have e2 : L64 n * L64 n = L64 (n * n) := (Int64.ofInt_mul n n).symm
  rw [e2, show (65521 : Int64) = L64 65521 from rfl, L_div (by omega) (by omega)]
  have e3 : L64 (n * n) - L64 (n * n / 65521) * L64 65521 = L64 (n * n % 65521) := by
    rw [← I_mod]
    unfold L64
    rw [Int64.ofInt_sub, Int64.ofInt_mul (n * n / 65521)]
  rw [e3, L_32 ⟨Int.emod_nonneg _ (by decide), Int.emod_lt_of_pos _ (by decide)⟩]

theorem s110 {nat : gNat} {d : Nat} {w : gWd} {z k : Int} (hz : 0 ≤ z ∧ z ≤ 9999) (hk : 0 ≤ k ∧ k < 60) : gC nat (d + 1) 110 [.int (J z), .int (J k)] w = some (some (.int (J (dNum z k))), w) := by
  rw [en110]
  simp (disch := first | omega | exact Nat.le_of_ble_eq_true rfl) only [e110_0, e110_3, e110_4, e110_5, e110_6, e110_9, e110_10, e110_11, e110_12, e110_13, e110_14, e110_15, e110_16, e110_17, e110_18, e110_19, e110_22, e110_23, e110_24, J_add, J_sub, J_mul, J_neg, J_lt, J_le, J_eq, gArr_J, gAst_J, gSiz_J, gFld_o, gUpd_o0, gUpd_o1, gUpd_o2, gUpd_o3, gUpd_o4, gUpd_o5, gUpd_o6, gUpd_o7, gUpd_o8, gUpd_o9, gUpd_o10, gUpd_o11, gUpd_o12, gUpd_o13, gUpd_o14, gUpd_o15, gUpd_o16, gUpd_o17, gUpd_o18, gIsO_o, Option.bind_some, List.getElem?_cons_zero, List.getElem?_cons_succ, List.length_cons, List.length_nil, List.set_cons_zero, List.set_cons_succ, gCat_nil, gCat_int, gCat_ref, if_pos, if_neg, Option.toList_some, Option.toList_none, List.cons_append, List.nil_append, B_nar, J1_nar, J0_nar, if_true, if_false, rd_wr_same, rd_wr_ne, true_and, and_true, B_0, B_1, not_true_eq_false, not_false_eq_true, drw hz hk]

def act (K S : Lay) (r : Int) : Lay :=
  if r % 8 < 4 then (if K 1 (5 * (r / 64 % K 0 1) + 4) ≤ S 1 (r / 64 % K 0 1) then S else sset S 2 (r / 8 % K 0 2) (r / 64 % K 0 1))
  else if r % 8 = 4 then (if K 1 (5 * (r / 8 % K 0 1) + 4) ≤ S 1 (r / 8 % K 0 1) then sset S 1 (r / 8 % K 0 1) 0 else S) else S
theorem md_in {r b : Int} (h : 1 ≤ b) : 0 ≤ r % b ∧ r % b < b := ⟨Int.emod_nonneg _ (by omega), Int.emod_lt_of_pos _ (by omega)⟩
theorem act_ok {K S : Lay} (hK : vK K) (hg : 1 ≤ K 0 1 ∧ 1 ≤ K 0 2) (hS : vS K S) (hn : nS S) (r : Int) : vS K (act K S r) ∧ nS (act K S r) ∧ (act K S r) 0 0 = S 0 0 := by
  have k1 := hK.2.1
  have k2 := hK.2.2.1
  have m1 := md_in (r := r / 64) hg.1
  have m2 := md_in (r := r / 8) hg.2
  have m3 := md_in (r := r / 8) hg.1
  unfold act
  split
  · split
    · exact ⟨hS, hn, rfl⟩
    · exact ⟨vS_aim hK hS m2 (Or.inr ⟨m1.1, m1.2, by omega⟩), nS_sset hn (by omega), by rw [sset_row (by decide)]⟩
  · split
    · split
      · exact ⟨vS_cut hK hS m3, nS_sset hn (by omega), by rw [sset_row (by decide)]⟩
      · exact ⟨hS, hn, rfl⟩
    · exact ⟨hS, hn, rfl⟩

theorem s111 {nat : gNat} {d : Nat} {w : gWd} {p q : Nat} {X K S T : Lay} {PT KT : Nat → Lay} (hX : isX w p q X K S PT KT) (hK : vK K) (hg : 1 ≤ K 0 1 ∧ 1 ≤ K 0 2) (hT : vS K T) {r : Int} (hr : 0 ≤ r ∧ r < 65521) : gC nat (d + 4) 111 [.ref 0, .int (J r)] (putS w 16 T) = some (none, putS w 16 (act K T r)) := by
  rw [en111]
  obtain ⟨i0, iT, iR, iK, iQ, iS, inS, iTr, iP, iKp, iE, iH, iW, iD, hpq⟩ := id hX
  have hb := gSTR_big
  have k1 := hK.2.1
  have k2 := hK.2.2.1
  have m1 := md_in (r := r / 64) hg.1
  have m2 := md_in (r := r / 8) hg.2
  have m3 := md_in (r := r / 8) hg.1
  have m8 : 0 ≤ r % 8 ∧ r % 8 < 8 := md_in (by decide)
  have q8 : 0 ≤ r / 8 ∧ r / 8 < 65521 := by omega
  have q64 : 0 ≤ r / 64 ∧ r / 64 < 65521 := by omega
  have f0 : rd (putS w 16 T) 0 = _ := (rd_putS (by omega)).trans i0
  have f1 : rd (putS w 16 T) p = _ := (rd_putS (by omega)).trans iK.2.1
  have f2 : rd (putS w 16 T) 16 = _ := rdP0
  unfold act
  by_cases h1 : r % 8 < 4
  · rw [if_pos h1]
    have c1 := s62 (nat := nat) (d := d + 1) (w := w) (a := 16) (S := T) iK hK (by omega) (by omega) (g := r / 64 % K 0 1) m1 (cbs_in hK hT _ m1.1 m1.2)
    have c2 := s66 (nat := nat) (d := d + 1) (w := w) (a := 16) (S := T) (by omega) (x := r / 8 % K 0 2) (g := r / 64 % K 0 1) (by omega)
    by_cases h2 : K 1 (5 * (r / 64 % K 0 1) + 4) ≤ T 1 (r / 64 % K 0 1)
    · rw [B_pos h2] at c1
      rw [if_pos h2]
      simp (disch := first | omega | exact Nat.le_of_ble_eq_true rfl) only [e111_0, e111_1, e111_4, e111_7, e111_8, e111_11, e111_12, e111_15, e111_18, e111_19, e111_22, e111_23, e111_24, e111_26, e111_27, e111_28, e111_29, e111_30, e111_33, e111_34, e111_36, e111_37, e111_38, e111_41, e111_44, e111_45, e111_46, e111_47, e111_50, e111_51, e111_54, e111_55, e111_58, e111_61, e111_62, e111_65, e111_66, e111_68, e111_69, e111_70, e111_73, e111_76, e111_77, e111_78, e111_81, e111_84, e111_85, e111_86, e111_89, e111_90, e111_92, e111_93, e111_94, e111_97, e111_100, e111_101, e111_102, e111_103, e111_106, e111_107, e111_110, e111_111, e111_114, e111_117, e111_118, e111_121, e111_122, e111_125, J_add, J_sub, J_mul, J_neg, J_lt, J_le, J_eq, gArr_J, gAst_J, gSiz_J, gFld_o, gUpd_o0, gUpd_o1, gUpd_o2, gUpd_o3, gUpd_o4, gUpd_o5, gUpd_o6, gUpd_o7, gUpd_o8, gUpd_o9, gUpd_o10, gUpd_o11, gUpd_o12, gUpd_o13, gUpd_o14, gUpd_o15, gUpd_o16, gUpd_o17, gUpd_o18, gIsO_o, Option.bind_some, List.getElem?_cons_zero, List.getElem?_cons_succ, List.length_cons, List.length_nil, List.set_cons_zero, List.set_cons_succ, gCat_nil, gCat_int, gCat_ref, if_pos, if_neg, Option.toList_some, Option.toList_none, List.cons_append, List.nil_append, B_nar, J1_nar, J0_nar, if_true, if_false, rd_wr_same, rd_wr_ne, true_and, and_true, B_0, B_1, not_true_eq_false, not_false_eq_true, f0, f1, f2, c1, J_div, I_mod, J_ne0]
    · rw [B_neg h2] at c1
      rw [if_neg h2]
      simp (disch := first | omega | exact Nat.le_of_ble_eq_true rfl) only [e111_0, e111_1, e111_4, e111_7, e111_8, e111_11, e111_12, e111_15, e111_18, e111_19, e111_22, e111_23, e111_24, e111_26, e111_27, e111_28, e111_29, e111_30, e111_33, e111_34, e111_36, e111_37, e111_38, e111_41, e111_44, e111_45, e111_46, e111_47, e111_50, e111_51, e111_54, e111_55, e111_58, e111_61, e111_62, e111_65, e111_66, e111_68, e111_69, e111_70, e111_73, e111_76, e111_77, e111_78, e111_81, e111_84, e111_85, e111_86, e111_89, e111_90, e111_92, e111_93, e111_94, e111_97, e111_100, e111_101, e111_102, e111_103, e111_106, e111_107, e111_110, e111_111, e111_114, e111_117, e111_118, e111_121, e111_122, e111_125, J_add, J_sub, J_mul, J_neg, J_lt, J_le, J_eq, gArr_J, gAst_J, gSiz_J, gFld_o, gUpd_o0, gUpd_o1, gUpd_o2, gUpd_o3, gUpd_o4, gUpd_o5, gUpd_o6, gUpd_o7, gUpd_o8, gUpd_o9, gUpd_o10, gUpd_o11, gUpd_o12, gUpd_o13, gUpd_o14, gUpd_o15, gUpd_o16, gUpd_o17, gUpd_o18, gIsO_o, Option.bind_some, List.getElem?_cons_zero, List.getElem?_cons_succ, List.length_cons, List.length_nil, List.set_cons_zero, List.set_cons_succ, gCat_nil, gCat_int, gCat_ref, if_pos, if_neg, Option.toList_some, Option.toList_none, List.cons_append, List.nil_append, B_nar, J1_nar, J0_nar, if_true, if_false, rd_wr_same, rd_wr_ne, true_and, and_true, B_0, B_1, not_true_eq_false, not_false_eq_true, f0, f1, f2, c1, c2, J_div, I_mod, J_ne0]
  · rw [if_neg h1]
    by_cases h3 : r % 8 = 4
    · rw [if_pos h3]
      have c1 := s62 (nat := nat) (d := d + 1) (w := w) (a := 16) (S := T) iK hK (by omega) (by omega) (g := r / 8 % K 0 1) m3 (cbs_in hK hT _ m3.1 m3.2)
      have c2 := s68 (nat := nat) (d := d + 1) (w := w) (a := 16) (S := T) (by omega) (g := r / 8 % K 0 1) (by omega)
      by_cases h2 : K 1 (5 * (r / 8 % K 0 1) + 4) ≤ T 1 (r / 8 % K 0 1)
      · rw [B_pos h2] at c1
        rw [if_pos h2]
        simp (disch := first | omega | exact Nat.le_of_ble_eq_true rfl) only [e111_0, e111_1, e111_4, e111_7, e111_8, e111_11, e111_12, e111_15, e111_18, e111_19, e111_22, e111_23, e111_24, e111_26, e111_27, e111_28, e111_29, e111_30, e111_33, e111_34, e111_36, e111_37, e111_38, e111_41, e111_44, e111_45, e111_46, e111_47, e111_50, e111_51, e111_54, e111_55, e111_58, e111_61, e111_62, e111_65, e111_66, e111_68, e111_69, e111_70, e111_73, e111_76, e111_77, e111_78, e111_81, e111_84, e111_85, e111_86, e111_89, e111_90, e111_92, e111_93, e111_94, e111_97, e111_100, e111_101, e111_102, e111_103, e111_106, e111_107, e111_110, e111_111, e111_114, e111_117, e111_118, e111_121, e111_122, e111_125, J_add, J_sub, J_mul, J_neg, J_lt, J_le, J_eq, gArr_J, gAst_J, gSiz_J, gFld_o, gUpd_o0, gUpd_o1, gUpd_o2, gUpd_o3, gUpd_o4, gUpd_o5, gUpd_o6, gUpd_o7, gUpd_o8, gUpd_o9, gUpd_o10, gUpd_o11, gUpd_o12, gUpd_o13, gUpd_o14, gUpd_o15, gUpd_o16, gUpd_o17, gUpd_o18, gIsO_o, Option.bind_some, List.getElem?_cons_zero, List.getElem?_cons_succ, List.length_cons, List.length_nil, List.set_cons_zero, List.set_cons_succ, gCat_nil, gCat_int, gCat_ref, if_pos, if_neg, Option.toList_some, Option.toList_none, List.cons_append, List.nil_append, B_nar, J1_nar, J0_nar, if_true, if_false, rd_wr_same, rd_wr_ne, true_and, and_true, B_0, B_1, not_true_eq_false, not_false_eq_true, f0, f1, f2, c1, c2, J_div, I_mod, J_ne0]
      · rw [B_neg h2] at c1
        rw [if_neg h2]
        simp (disch := first | omega | exact Nat.le_of_ble_eq_true rfl) only [e111_0, e111_1, e111_4, e111_7, e111_8, e111_11, e111_12, e111_15, e111_18, e111_19, e111_22, e111_23, e111_24, e111_26, e111_27, e111_28, e111_29, e111_30, e111_33, e111_34, e111_36, e111_37, e111_38, e111_41, e111_44, e111_45, e111_46, e111_47, e111_50, e111_51, e111_54, e111_55, e111_58, e111_61, e111_62, e111_65, e111_66, e111_68, e111_69, e111_70, e111_73, e111_76, e111_77, e111_78, e111_81, e111_84, e111_85, e111_86, e111_89, e111_90, e111_92, e111_93, e111_94, e111_97, e111_100, e111_101, e111_102, e111_103, e111_106, e111_107, e111_110, e111_111, e111_114, e111_117, e111_118, e111_121, e111_122, e111_125, J_add, J_sub, J_mul, J_neg, J_lt, J_le, J_eq, gArr_J, gAst_J, gSiz_J, gFld_o, gUpd_o0, gUpd_o1, gUpd_o2, gUpd_o3, gUpd_o4, gUpd_o5, gUpd_o6, gUpd_o7, gUpd_o8, gUpd_o9, gUpd_o10, gUpd_o11, gUpd_o12, gUpd_o13, gUpd_o14, gUpd_o15, gUpd_o16, gUpd_o17, gUpd_o18, gIsO_o, Option.bind_some, List.getElem?_cons_zero, List.getElem?_cons_succ, List.length_cons, List.length_nil, List.set_cons_zero, List.set_cons_succ, gCat_nil, gCat_int, gCat_ref, if_pos, if_neg, Option.toList_some, Option.toList_none, List.cons_append, List.nil_append, B_nar, J1_nar, J0_nar, if_true, if_false, rd_wr_same, rd_wr_ne, true_and, and_true, B_0, B_1, not_true_eq_false, not_false_eq_true, f0, f1, f2, c1, J_div, I_mod, J_ne0]
    · rw [if_neg h3]
      simp (disch := first | omega | exact Nat.le_of_ble_eq_true rfl) only [e111_0, e111_1, e111_4, e111_7, e111_8, e111_11, e111_12, e111_15, e111_18, e111_19, e111_22, e111_23, e111_24, e111_26, e111_27, e111_28, e111_29, e111_30, e111_33, e111_34, e111_36, e111_37, e111_38, e111_41, e111_44, e111_45, e111_46, e111_47, e111_50, e111_51, e111_54, e111_55, e111_58, e111_61, e111_62, e111_65, e111_66, e111_68, e111_69, e111_70, e111_73, e111_76, e111_77, e111_78, e111_81, e111_84, e111_85, e111_86, e111_89, e111_90, e111_92, e111_93, e111_94, e111_97, e111_100, e111_101, e111_102, e111_103, e111_106, e111_107, e111_110, e111_111, e111_114, e111_117, e111_118, e111_121, e111_122, e111_125, J_add, J_sub, J_mul, J_neg, J_lt, J_le, J_eq, gArr_J, gAst_J, gSiz_J, gFld_o, gUpd_o0, gUpd_o1, gUpd_o2, gUpd_o3, gUpd_o4, gUpd_o5, gUpd_o6, gUpd_o7, gUpd_o8, gUpd_o9, gUpd_o10, gUpd_o11, gUpd_o12, gUpd_o13, gUpd_o14, gUpd_o15, gUpd_o16, gUpd_o17, gUpd_o18, gIsO_o, Option.bind_some, List.getElem?_cons_zero, List.getElem?_cons_succ, List.length_cons, List.length_nil, List.set_cons_zero, List.set_cons_succ, gCat_nil, gCat_int, gCat_ref, if_pos, if_neg, Option.toList_some, Option.toList_none, List.cons_append, List.nil_append, B_nar, J1_nar, J0_nar, if_true, if_false, rd_wr_same, rd_wr_ne, true_and, and_true, B_0, B_1, not_true_eq_false, not_false_eq_true, f0, f1, f2, J_div, I_mod, J_ne0]

def smr (K S : Lay) (z : Int) : Nat → Lay
  | 0 => S
  | k + 1 => lives K (act K (smr K S z k) (dNum z k)) 1
theorem smr_ok {K S : Lay} (hK : vK K) (hg : 1 ≤ K 0 1 ∧ 1 ≤ K 0 2) (hS : vS K S) (hn : nS S) (z : Int) : ∀ k : Nat, vS K (smr K S z k) ∧ nS (smr K S z k) ∧ (smr K S z k) 0 0 = S 0 0 + k := by
  intro k
  induction k with
  | zero => exact ⟨hS, hn, by simp [smr]⟩
  | succ k ih =>
    obtain ⟨h1, h2, h3⟩ := ih
    obtain ⟨a1, a2, a3⟩ := act_ok hK hg h1 h2 (dNum z k)
    refine ⟨vS_lives hK a1 1, nS_lives hK a1 a2 1, ?_⟩
    rw [smr, lives_h, a3, h3]
    omega
abbrev sumI (z n u : Int) : Prop := (0 ≤ z ∧ z ≤ 9999) ∧ (1 ≤ n ∧ n ≤ 60) ∧ (0 ≤ u ∧ u ≤ 1)
def aSum (K S : Lay) (z n u : Int) : Int := if sumI z n u then (if u = 0 then (pop (cb K (smr K S z n.toNat)) : Nat) else ast (smr K S z n.toNat) (K 0 1).toNat) else -1
theorem l100 {nat : gNat} {d : Nat} {w : gWd} {p q : Nat} {X K S : Lay} {PT KT : Nat → Lay} (hX : isX w p q X K S PT KT) (hK : vK K) (hg : 1 ≤ K 0 1 ∧ 1 ≤ K 0 2) (hS : vS K S) (hH : 0 ≤ S 0 0 ∧ S 0 0 < 1000000) {z : Int} (hz : 0 ≤ z ∧ z ≤ 9999) {n : Nat} (hn : n ≤ 60) {z3 : Option Value} : ∀ (k r : Nat), r + k = n → gX (gC nat (d + 5)) nat 100 46 [some (.ref 0), some (.int (J z)), some (.int (J n)), z3, some (.int (J r))] [] [] (putS w 16 (smr K S z r)) = gX (gC nat (d + 5)) nat 100 80 [some (.ref 0), some (.int (J z)), some (.int (J n)), z3, some (.int (J n))] [] [] (putS w 16 (smr K S z n)) := by
  obtain ⟨i0, iT, iR, iK, iQ, iS, inS, iTr, iP, iKp, iE, iH, iW, iD, hpq⟩ := id hX
  have hb := gSTR_big
  intro k
  induction k with
  | zero =>
    intro r hr
    rw [Nat.add_zero] at hr
    subst hr
    rw [e100_46]
    simp (disch := first | omega | exact Nat.le_of_ble_eq_true rfl) only [e100_0, e100_1, e100_2, e100_5, e100_8, e100_11, e100_12, e100_13, e100_15, e100_18, e100_21, e100_22, e100_23, e100_24, e100_27, e100_30, e100_31, e100_32, e100_33, e100_36, e100_37, e100_40, e100_43, e100_44, e100_48, e100_49, e100_52, e100_53, e100_54, e100_56, e100_59, e100_62, e100_63, e100_66, e100_67, e100_70, e100_71, e100_74, e100_77, e100_81, e100_84, e100_85, e100_88, e100_89, e100_92, e100_95, e100_98, e100_101, e100_102, e100_105, e100_106, e100_109, e100_112, J_add, J_sub, J_mul, J_neg, J_lt, J_le, J_eq, gArr_J, gAst_J, gSiz_J, gFld_o, gUpd_o0, gUpd_o1, gUpd_o2, gUpd_o3, gUpd_o4, gUpd_o5, gUpd_o6, gUpd_o7, gUpd_o8, gUpd_o9, gUpd_o10, gUpd_o11, gUpd_o12, gUpd_o13, gUpd_o14, gUpd_o15, gUpd_o16, gUpd_o17, gUpd_o18, gIsO_o, Option.bind_some, List.getElem?_cons_zero, List.getElem?_cons_succ, List.length_cons, List.length_nil, List.set_cons_zero, List.set_cons_succ, gCat_nil, gCat_int, gCat_ref, if_pos, if_neg, Option.toList_some, Option.toList_none, List.cons_append, List.nil_append, B_nar, J1_nar, J0_nar, if_true, if_false, rd_wr_same, rd_wr_ne, true_and, and_true, B_0, B_1, not_true_eq_false, not_false_eq_true]
  | succ k ih =>
    intro r hr
    obtain ⟨v1, v2, v3⟩ := smr_ok hK hg hS inS z r
    obtain ⟨a1, a2, a3⟩ := act_ok hK hg v1 v2 (dNum z r)
    have c1 := fun w => s110 (nat := nat) (d := d + 4) (w := w) (z := z) (k := (r : Int)) hz (by omega)
    have c2 := s111 (nat := nat) (d := d + 1) hX hK hg v1 (dNum_in z r)
    have c3 := s69 (nat := nat) (d := d) (w := w) (a := 16) (S := act K (smr K S z r) (dNum z r)) iK hK (by omega) (by omega) a1 (N := 1) (by rw [a3, v3]; omega)
    rw [show ((1 : Nat) : Int) = 1 from rfl] at c3
    have f0 : ∀ S, rd (putS w 16 S) 0 = _ := fun S => (rd_putS (by omega)).trans i0
    have f2 : ∀ S, rd (putS w 16 S) 16 = _ := fun S => rdP0
    have := ih (r + 1) (by omega)
    rw [show ((r + 1 : Nat) : Int) = (r : Int) + 1 from rfl, smr] at this
    rw [← this, e100_46]
    simp (disch := first | omega | exact Nat.le_of_ble_eq_true rfl) only [e100_0, e100_1, e100_2, e100_5, e100_8, e100_11, e100_12, e100_13, e100_15, e100_18, e100_21, e100_22, e100_23, e100_24, e100_27, e100_30, e100_31, e100_32, e100_33, e100_36, e100_37, e100_40, e100_43, e100_44, e100_48, e100_49, e100_52, e100_53, e100_54, e100_56, e100_59, e100_62, e100_63, e100_66, e100_67, e100_70, e100_71, e100_74, e100_77, e100_81, e100_84, e100_85, e100_88, e100_89, e100_92, e100_95, e100_98, e100_101, e100_102, e100_105, e100_106, e100_109, e100_112, J_add, J_sub, J_mul, J_neg, J_lt, J_le, J_eq, gArr_J, gAst_J, gSiz_J, gFld_o, gUpd_o0, gUpd_o1, gUpd_o2, gUpd_o3, gUpd_o4, gUpd_o5, gUpd_o6, gUpd_o7, gUpd_o8, gUpd_o9, gUpd_o10, gUpd_o11, gUpd_o12, gUpd_o13, gUpd_o14, gUpd_o15, gUpd_o16, gUpd_o17, gUpd_o18, gIsO_o, Option.bind_some, List.getElem?_cons_zero, List.getElem?_cons_succ, List.length_cons, List.length_nil, List.set_cons_zero, List.set_cons_succ, gCat_nil, gCat_int, gCat_ref, if_pos, if_neg, Option.toList_some, Option.toList_none, List.cons_append, List.nil_append, B_nar, J1_nar, J0_nar, if_true, if_false, rd_wr_same, rd_wr_ne, true_and, and_true, B_0, B_1, not_true_eq_false, not_false_eq_true, f0, f2, c1, c2, c3]


theorem x100 {nat : gNat} {d : Nat} {w : gWd} {p q : Nat} {X K S : Lay} {PT KT : Nat → Lay} (hX : isX w p q X K S PT KT) (hK : vK K) (hS : vS K S) (hH : 0 ≤ S 0 0 ∧ S 0 0 < 1000000) (hg : 1 ≤ K 0 1 ∧ 1 ≤ K 0 2) {z n u : Int} (h_z : -2147483648 ≤ z ∧ z < 2147483648) (h_n : -2147483648 ≤ n ∧ n < 2147483648) (h_u : -2147483648 ≤ u ∧ u < 2147483648)  : ∃ w', gC nat (d + 25) 100 [.ref 0, .int (J z), .int (J n), .int (J u)] w = some (some (.int (J (aSum K S z n u))), w') ∧ isX w' p q X K S PT KT ∧ (∀ z, 96 ≤ z → rd w' z = rd w z) ∧ w'.2 = w.2 := by
  rw [en100]
  obtain ⟨i0, iT, iR, iK, iQ, iS, inS, iTr, iP, iKp, iE, iH, iW, iD, hpq⟩ := id hX
  have c1 := s113 (nat := nat) (d := d + 23) (w := w) (x := z) (l := 0) (h := 9999) (by omega) (by omega) (by omega)
  have c2 := s113 (nat := nat) (d := d + 23) (w := w) (x := n) (l := 1) (h := 60) (by omega) (by omega) (by omega)
  have c3 := s113 (nat := nat) (d := d + 23) (w := w) (x := u) (l := 0) (h := 1) (by omega) (by omega) (by omega)
  have hb := gSTR_big
  unfold aSum
  by_cases h1 : 0 ≤ z ∧ z ≤ 9999
  rotate_left
  · rw [B_neg h1] at c1
    rw [if_neg (fun y => h1 y.1)]
    refine ⟨w, ?_, hX, fun _ _ => rfl, rfl⟩
    simp (disch := first | omega | exact Nat.le_of_ble_eq_true rfl) only [e100_0, e100_1, e100_2, e100_5, e100_8, e100_11, e100_12, e100_13, e100_15, e100_18, e100_21, e100_22, e100_23, e100_24, e100_27, e100_30, e100_31, e100_32, e100_33, e100_36, e100_37, e100_40, e100_43, e100_44, e100_48, e100_49, e100_52, e100_53, e100_54, e100_56, e100_59, e100_62, e100_63, e100_66, e100_67, e100_70, e100_71, e100_74, e100_77, e100_81, e100_84, e100_85, e100_88, e100_89, e100_92, e100_95, e100_98, e100_101, e100_102, e100_105, e100_106, e100_109, e100_112, J_add, J_sub, J_mul, J_neg, J_lt, J_le, J_eq, gArr_J, gAst_J, gSiz_J, gFld_o, gUpd_o0, gUpd_o1, gUpd_o2, gUpd_o3, gUpd_o4, gUpd_o5, gUpd_o6, gUpd_o7, gUpd_o8, gUpd_o9, gUpd_o10, gUpd_o11, gUpd_o12, gUpd_o13, gUpd_o14, gUpd_o15, gUpd_o16, gUpd_o17, gUpd_o18, gIsO_o, Option.bind_some, List.getElem?_cons_zero, List.getElem?_cons_succ, List.length_cons, List.length_nil, List.set_cons_zero, List.set_cons_succ, gCat_nil, gCat_int, gCat_ref, if_pos, if_neg, Option.toList_some, Option.toList_none, List.cons_append, List.nil_append, B_nar, J1_nar, J0_nar, if_true, if_false, rd_wr_same, rd_wr_ne, true_and, and_true, B_0, B_1, not_true_eq_false, not_false_eq_true, i0, c1]
  rw [B_pos h1] at c1
  by_cases h2 : 1 ≤ n ∧ n ≤ 60
  rotate_left
  · rw [B_neg h2] at c2
    rw [if_neg (fun y => h2 y.2.1)]
    refine ⟨w, ?_, hX, fun _ _ => rfl, rfl⟩
    simp (disch := first | omega | exact Nat.le_of_ble_eq_true rfl) only [e100_0, e100_1, e100_2, e100_5, e100_8, e100_11, e100_12, e100_13, e100_15, e100_18, e100_21, e100_22, e100_23, e100_24, e100_27, e100_30, e100_31, e100_32, e100_33, e100_36, e100_37, e100_40, e100_43, e100_44, e100_48, e100_49, e100_52, e100_53, e100_54, e100_56, e100_59, e100_62, e100_63, e100_66, e100_67, e100_70, e100_71, e100_74, e100_77, e100_81, e100_84, e100_85, e100_88, e100_89, e100_92, e100_95, e100_98, e100_101, e100_102, e100_105, e100_106, e100_109, e100_112, J_add, J_sub, J_mul, J_neg, J_lt, J_le, J_eq, gArr_J, gAst_J, gSiz_J, gFld_o, gUpd_o0, gUpd_o1, gUpd_o2, gUpd_o3, gUpd_o4, gUpd_o5, gUpd_o6, gUpd_o7, gUpd_o8, gUpd_o9, gUpd_o10, gUpd_o11, gUpd_o12, gUpd_o13, gUpd_o14, gUpd_o15, gUpd_o16, gUpd_o17, gUpd_o18, gIsO_o, Option.bind_some, List.getElem?_cons_zero, List.getElem?_cons_succ, List.length_cons, List.length_nil, List.set_cons_zero, List.set_cons_succ, gCat_nil, gCat_int, gCat_ref, if_pos, if_neg, Option.toList_some, Option.toList_none, List.cons_append, List.nil_append, B_nar, J1_nar, J0_nar, if_true, if_false, rd_wr_same, rd_wr_ne, true_and, and_true, B_0, B_1, not_true_eq_false, not_false_eq_true, i0, c1, c2]
  rw [B_pos h2] at c2
  by_cases h3 : 0 ≤ u ∧ u ≤ 1
  rotate_left
  · rw [B_neg h3] at c3
    rw [if_neg (fun y => h3 y.2.2)]
    refine ⟨w, ?_, hX, fun _ _ => rfl, rfl⟩
    simp (disch := first | omega | exact Nat.le_of_ble_eq_true rfl) only [e100_0, e100_1, e100_2, e100_5, e100_8, e100_11, e100_12, e100_13, e100_15, e100_18, e100_21, e100_22, e100_23, e100_24, e100_27, e100_30, e100_31, e100_32, e100_33, e100_36, e100_37, e100_40, e100_43, e100_44, e100_48, e100_49, e100_52, e100_53, e100_54, e100_56, e100_59, e100_62, e100_63, e100_66, e100_67, e100_70, e100_71, e100_74, e100_77, e100_81, e100_84, e100_85, e100_88, e100_89, e100_92, e100_95, e100_98, e100_101, e100_102, e100_105, e100_106, e100_109, e100_112, J_add, J_sub, J_mul, J_neg, J_lt, J_le, J_eq, gArr_J, gAst_J, gSiz_J, gFld_o, gUpd_o0, gUpd_o1, gUpd_o2, gUpd_o3, gUpd_o4, gUpd_o5, gUpd_o6, gUpd_o7, gUpd_o8, gUpd_o9, gUpd_o10, gUpd_o11, gUpd_o12, gUpd_o13, gUpd_o14, gUpd_o15, gUpd_o16, gUpd_o17, gUpd_o18, gIsO_o, Option.bind_some, List.getElem?_cons_zero, List.getElem?_cons_succ, List.length_cons, List.length_nil, List.set_cons_zero, List.set_cons_succ, gCat_nil, gCat_int, gCat_ref, if_pos, if_neg, Option.toList_some, Option.toList_none, List.cons_append, List.nil_append, B_nar, J1_nar, J0_nar, if_true, if_false, rd_wr_same, rd_wr_ne, true_and, and_true, B_0, B_1, not_true_eq_false, not_false_eq_true, i0, c1, c2, c3]
  rw [B_pos h3] at c3
  rw [if_pos ⟨h1, h2, h3⟩]
  obtain ⟨T, t1, t2⟩ := id iTr
  have c4 := s58x (nat := nat) (d := d + 22) hX
  have this := l100 (nat := nat) (d := d + 19) hX hK hg hS hH h1 (n := n.toNat) (by omega) (z3 := some (.int (J u))) n.toNat 0 (by omega)
  rw [show ((n.toNat : Nat) : Int) = n by omega, smr, show ((0 : Nat) : Int) = 0 from rfl] at this
  obtain ⟨v1, v2, v3⟩ := smr_ok hK hg hS inS z n.toNat
  generalize smr K S z n.toNat = V at *
  have c5 := s63 (nat := nat) (d := d + 21) (w := w) (a := 16) (m := p) (S := V) iK hK (by omega) (by omega) (cbs_in hK v1)
  have c6 := s64 (nat := nat) (d := d + 22) (w := w) (a := 16) (m := p) (S := V) iK hK (by omega) (by omega)
  have c7 := s192 (nat := nat) (d := d + 23) (w := putS w 16 V) (cb_lt hK V)
  have f0 : ∀ S, rd (putS w 16 S) 0 = _ := fun S => (rd_putS (by omega)).trans i0
  have f2 : ∀ S, rd (putS w 16 S) 16 = _ := fun S => rdP0
  refine ⟨_, ?_, isX_tr hX v2, fun z hz => rd_putS (by omega), rfl⟩
  simp (disch := first | omega | exact Nat.le_of_ble_eq_true rfl) only [e100_0, e100_1, e100_2, e100_5, e100_8, e100_11, e100_12, e100_13, e100_15, e100_18, e100_21, e100_22, e100_23, e100_24, e100_27, e100_30, e100_31, e100_32, e100_33, e100_36, e100_37, e100_40, e100_43, e100_44, e100_48, e100_49, e100_52, e100_53, e100_54, e100_56, e100_59, e100_62, e100_63, e100_66, e100_67, e100_70, e100_71, e100_74, e100_77, e100_81, e100_84, e100_85, e100_88, e100_89, e100_92, e100_95, e100_98, e100_101, e100_102, e100_105, e100_106, e100_109, e100_112, J_add, J_sub, J_mul, J_neg, J_lt, J_le, J_eq, gArr_J, gAst_J, gSiz_J, gFld_o, gUpd_o0, gUpd_o1, gUpd_o2, gUpd_o3, gUpd_o4, gUpd_o5, gUpd_o6, gUpd_o7, gUpd_o8, gUpd_o9, gUpd_o10, gUpd_o11, gUpd_o12, gUpd_o13, gUpd_o14, gUpd_o15, gUpd_o16, gUpd_o17, gUpd_o18, gIsO_o, Option.bind_some, List.getElem?_cons_zero, List.getElem?_cons_succ, List.length_cons, List.length_nil, List.set_cons_zero, List.set_cons_succ, gCat_nil, gCat_int, gCat_ref, if_pos, if_neg, Option.toList_some, Option.toList_none, List.cons_append, List.nil_append, B_nar, J1_nar, J0_nar, if_true, if_false, rd_wr_same, rd_wr_ne, true_and, and_true, B_0, B_1, not_true_eq_false, not_false_eq_true, i0, t1.2.1, c1, c2, c3, c4]
  rw [this, e100_80]
  by_cases h4 : u = 0
  · rw [if_pos h4]
    simp (disch := first | omega | exact Nat.le_of_ble_eq_true rfl) only [e100_0, e100_1, e100_2, e100_5, e100_8, e100_11, e100_12, e100_13, e100_15, e100_18, e100_21, e100_22, e100_23, e100_24, e100_27, e100_30, e100_31, e100_32, e100_33, e100_36, e100_37, e100_40, e100_43, e100_44, e100_48, e100_49, e100_52, e100_53, e100_54, e100_56, e100_59, e100_62, e100_63, e100_66, e100_67, e100_70, e100_71, e100_74, e100_77, e100_81, e100_84, e100_85, e100_88, e100_89, e100_92, e100_95, e100_98, e100_101, e100_102, e100_105, e100_106, e100_109, e100_112, J_add, J_sub, J_mul, J_neg, J_lt, J_le, J_eq, gArr_J, gAst_J, gSiz_J, gFld_o, gUpd_o0, gUpd_o1, gUpd_o2, gUpd_o3, gUpd_o4, gUpd_o5, gUpd_o6, gUpd_o7, gUpd_o8, gUpd_o9, gUpd_o10, gUpd_o11, gUpd_o12, gUpd_o13, gUpd_o14, gUpd_o15, gUpd_o16, gUpd_o17, gUpd_o18, gIsO_o, Option.bind_some, List.getElem?_cons_zero, List.getElem?_cons_succ, List.length_cons, List.length_nil, List.set_cons_zero, List.set_cons_succ, gCat_nil, gCat_int, gCat_ref, if_pos, if_neg, Option.toList_some, Option.toList_none, List.cons_append, List.nil_append, B_nar, J1_nar, J0_nar, if_true, if_false, rd_wr_same, rd_wr_ne, true_and, and_true, B_0, B_1, not_true_eq_false, not_false_eq_true, f0, f2, c5, c7]
  · rw [if_neg h4]
    simp (disch := first | omega | exact Nat.le_of_ble_eq_true rfl) only [e100_0, e100_1, e100_2, e100_5, e100_8, e100_11, e100_12, e100_13, e100_15, e100_18, e100_21, e100_22, e100_23, e100_24, e100_27, e100_30, e100_31, e100_32, e100_33, e100_36, e100_37, e100_40, e100_43, e100_44, e100_48, e100_49, e100_52, e100_53, e100_54, e100_56, e100_59, e100_62, e100_63, e100_66, e100_67, e100_70, e100_71, e100_74, e100_77, e100_81, e100_84, e100_85, e100_88, e100_89, e100_92, e100_95, e100_98, e100_101, e100_102, e100_105, e100_106, e100_109, e100_112, J_add, J_sub, J_mul, J_neg, J_lt, J_le, J_eq, gArr_J, gAst_J, gSiz_J, gFld_o, gUpd_o0, gUpd_o1, gUpd_o2, gUpd_o3, gUpd_o4, gUpd_o5, gUpd_o6, gUpd_o7, gUpd_o8, gUpd_o9, gUpd_o10, gUpd_o11, gUpd_o12, gUpd_o13, gUpd_o14, gUpd_o15, gUpd_o16, gUpd_o17, gUpd_o18, gIsO_o, Option.bind_some, List.getElem?_cons_zero, List.getElem?_cons_succ, List.length_cons, List.length_nil, List.set_cons_zero, List.set_cons_succ, gCat_nil, gCat_int, gCat_ref, if_pos, if_neg, Option.toList_some, Option.toList_none, List.cons_append, List.nil_append, B_nar, J1_nar, J0_nar, if_true, if_false, rd_wr_same, rd_wr_ne, true_and, and_true, B_0, B_1, not_true_eq_false, not_false_eq_true, f0, f2, c6]
