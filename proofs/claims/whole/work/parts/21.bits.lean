/-! bits: the first rows are pasted from kit/laws/BITS.to-paste, one family -/
def bt (x : Int32) (i : Nat) : Bool := x.toBitVec.getLsbD i
theorem b_ext {x y : Int32} (h : ∀ i, i < 32 → bt x i = bt y i) : x = y := Int32.toBitVec_inj.mp (BitVec.eq_of_getLsbD_eq (fun i hi => h i hi))
theorem b_or (x y : Int32) (i : Nat) : bt (x ||| y) i = (bt x i || bt y i) := by unfold bt; rw [Int32.toBitVec_or, BitVec.getLsbD_or]
theorem b_and (x y : Int32) (i : Nat) : bt (x &&& y) i = (bt x i && bt y i) := by unfold bt; rw [Int32.toBitVec_and, BitVec.getLsbD_and]
theorem b_xor (x y : Int32) (i : Nat) : bt (x ^^^ y) i = (bt x i ^^ bt y i) := by unfold bt; rw [Int32.toBitVec_xor, BitVec.getLsbD_xor]
theorem b_big {x : Int32} {i : Nat} (h : 32 ≤ i) : bt x i = false := BitVec.getLsbD_of_ge _ _ h
theorem b_m1 : ∀ i, i < 32 → bt (-1) i = true := by decide +kernel
theorem s_l : ∀ n, n < 32 → ((nI n &&& 31).toBitVec.smod 32).toNat = n := by decide +kernel
theorem b_shl (n : Nat) (hn : n < 32) (x : Int32) {i : Nat} (hi : i < 32) : bt (x <<< (nI n &&& 31)) i = (decide (n ≤ i) && bt x (i - n)) := by
  unfold bt
  rw [Int32.toBitVec_shiftLeft]
  show (x.toBitVec <<< ((nI n &&& 31).toBitVec.smod 32).toNat).getLsbD i = _
  rw [s_l n hn, BitVec.getLsbD_shiftLeft]
  rcases Nat.lt_or_ge i n with h | h
  · simp [h, Nat.not_le.mpr h]
  · simp [hi, h, Nat.not_lt.mpr h]
theorem b_sshr (n : Nat) (hn : n < 32) (x : Int32) {i : Nat} (hi : i < 32) : bt (x >>> (nI n &&& 31)) i = if n + i < 32 then bt x (n + i) else bt x 31 := by
  unfold bt
  rw [Int32.toBitVec_shiftRight]
  show (x.toBitVec.sshiftRight ((nI n &&& 31).toBitVec.smod 32).toNat).getLsbD i = _
  rw [s_l n hn, BitVec.getLsbD_sshiftRight, BitVec.msb_eq_getLsbD_last]
  simp [hi]
theorem J_nat (n : Nat) : J (n : Int) = nI n := by
  apply Int32.toBitVec_inj.mp
  show BitVec.ofInt 32 (n : Int) = BitVec.ofNat 32 n
  exact BitVec.ofInt_natCast 32 n
theorem bt_J {n i : Nat} (hi : i < 32) : bt (J (n : Int)) i = n.testBit i := by
  rw [J_nat]
  unfold bt
  show (BitVec.ofNat 32 n).getLsbD i = _
  rw [BitVec.getLsbD_ofNat]
  simp [hi]
theorem J_or (a b : Nat) : J (a : Int) ||| J (b : Int) = J ((a ||| b : Nat) : Int) := b_ext fun i hi => by
  rw [b_or, bt_J hi, bt_J hi, bt_J hi, Nat.testBit_or]
theorem J_and (a b : Nat) : J (a : Int) &&& J (b : Int) = J ((a &&& b : Nat) : Int) := b_ext fun i hi => by
  rw [b_and, bt_J hi, bt_J hi, bt_J hi, Nat.testBit_and]
theorem J_xor (a b : Nat) : J (a : Int) ^^^ J (b : Int) = J ((a ^^^ b : Nat) : Int) := b_ext fun i hi => by
  rw [b_xor, bt_J hi, bt_J hi, bt_J hi, Nat.testBit_xor]
theorem J_shl {g : Int} (h : 0 ≤ g ∧ g < 31) : J 1 <<< (J g &&& 31) = J ((2 ^ g.toNat : Nat) : Int) := by
  obtain ⟨n, rfl⟩ : ∃ n : Nat, g = n := ⟨g.toNat, by omega⟩
  have h1 : n < 32 := by omega
  rw [J_nat n]
  refine b_ext fun i hi => ?_
  rw [b_shl n h1 _ hi, bt_J hi, show J 1 = J ((1 : Nat) : Int) from rfl, bt_J (by omega), Int.toNat_natCast, Nat.testBit_two_pow]
  by_cases q : n ≤ i
  · by_cases q2 : i = n
    · subst q2
      simp
    · have e : Nat.testBit 1 (i - n) = false := Nat.testBit_lt_two_pow (Nat.lt_of_lt_of_le (by decide : 1 < 2 ^ 1) (Nat.pow_le_pow_right (by decide) (by omega)))
      rw [e]
      simp [Ne.symm q2]
  · have : n ≠ i := by omega
    simp [q, this]
theorem J_shr {s : Nat} {g : Int} (hs : s < 2147483648) (h : 0 ≤ g ∧ g < 31) : J (s : Int) >>> (J g &&& 31) = J ((s / 2 ^ g.toNat : Nat) : Int) := by
  obtain ⟨n, rfl⟩ : ∃ n : Nat, g = n := ⟨g.toNat, by omega⟩
  have h1 : n < 32 := by omega
  rw [J_nat n]
  refine b_ext fun i hi => ?_
  rw [b_sshr n h1 _ hi, bt_J hi, Int.toNat_natCast, Nat.testBit_div_two_pow]
  have h31 : ∀ k, 31 ≤ k → s.testBit k = false := fun k hk => Nat.testBit_lt_two_pow (Nat.lt_of_lt_of_le (show s < 2 ^ 31 from hs) (Nat.pow_le_pow_right (by decide) hk))
  split
  · rw [bt_J (by omega), Nat.add_comm]
  · rw [bt_J (by omega), h31 31 (by omega), h31 (i + n) (by omega)]
theorem J_bit {s : Nat} {g : Int} (hs : s < 2147483648) (h : 0 ≤ g ∧ g < 31) : J (s : Int) >>> (J g &&& 31) &&& J 1 = B (s.testBit g.toNat = true) := by
  rw [J_shr hs h, show J 1 = J ((1 : Nat) : Int) from rfl, J_and, Nat.and_one_is_mod]
  have e : s.testBit g.toNat = decide (s / 2 ^ g.toNat % 2 = 1) := by
    rw [Nat.testBit_eq_decide_div_mod_eq]
  rw [e]
  have h2 : s / 2 ^ g.toNat % 2 = 0 ∨ s / 2 ^ g.toNat % 2 = 1 := by omega
  rcases h2 with h2 | h2
  · rw [h2, B_neg (by decide)]
    rfl
  · rw [h2, B_pos (by decide)]
    rfl
theorem J_eqN {a b : Nat} (ha : a < 2147483648) (hb : b < 2147483648) : (J (a : Int) = J (b : Int)) = (a = b) := by
  rw [J_eq (by omega) (by omega)]
  exact propext (by omega)
