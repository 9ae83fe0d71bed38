/-! ints by their numbers -/
theorem J_add (a b : Int) : J a + J b = J (a + b) := (Int32.ofInt_add a b).symm
theorem J_sub (a b : Int) : J a - J b = J (a - b) := (Int32.ofInt_sub a b).symm
theorem J_mul (a b : Int) : J a * J b = J (a * b) := (Int32.ofInt_mul a b).symm
theorem J_neg (a : Int) : -J a = J (-a) := (Int32.ofInt_neg a).symm
theorem J_toInt {a : Int} (h : -2147483648 ≤ a ∧ a < 2147483648) : (J a).toInt = a := Int32.toInt_ofInt_of_le (by omega) (by omega)
theorem J_lt {a b : Int} (ha : -2147483648 ≤ a ∧ a < 2147483648) (hb : -2147483648 ≤ b ∧ b < 2147483648) : (J a < J b) = (a < b) := by
  rw [Int32.lt_iff_toInt_lt, J_toInt ha, J_toInt hb]
theorem J_le {a b : Int} (ha : -2147483648 ≤ a ∧ a < 2147483648) (hb : -2147483648 ≤ b ∧ b < 2147483648) : (J a ≤ J b) = (a ≤ b) := by
  rw [Int32.le_iff_toInt_le, J_toInt ha, J_toInt hb]
theorem J_eq {a b : Int} (ha : -2147483648 ≤ a ∧ a < 2147483648) (hb : -2147483648 ≤ b ∧ b < 2147483648) : (J a = J b) = (a = b) := by
  rw [← Int32.toInt_inj, J_toInt ha, J_toInt hb]
theorem J_of (x : Int32) : ∃ a : Int, (-2147483648 ≤ a ∧ a < 2147483648) ∧ x = J a := by
  refine ⟨x.toInt, ⟨Int32.le_toInt x, Int32.toInt_lt x⟩, ?_⟩
  exact (Int32.ofInt_toInt x).symm
theorem J_clamp {a : Int} (h : 0 ≤ a ∧ a < 2147483648) : (J a).toNatClampNeg = a.toNat := by
  show (J a).toInt.toNat = a.toNat
  rw [J_toInt (by omega)]
/-- a row of ints by numbers -/
def eI (f : Int → Int) : Nat → Int32 := fun k => J (f (k : Int))
def fset (f : Int → Int) (i v : Int) : Int → Int := fun k => if k = i then v else f k
theorem eI_zero : (fun _ => 0 : Nat → Int32) = eI (fun _ => 0) := by
  funext k
  exact J_zero.symm
theorem eI_upd (f : Int → Int) {i : Int} (v : Int) (h : 0 ≤ i ∧ i < 2147483648) : upd (eI f) (J i).toNatClampNeg (J v) = eI (fset f i v) := by
  funext k
  rw [J_clamp h]
  unfold upd eI fset
  by_cases hk : k = i.toNat
  · rw [if_pos hk, if_pos (by omega)]
  · rw [if_neg hk, if_neg (by omega)]
theorem gArr_J {n : Nat} {f : Int → Int} {i : Int} (h : 0 ≤ i ∧ i < n) (hn : n < 2147483648) : gArr (iC n (eI f)) (J i) = some (J (f i)) := by
  show (if J i < 0 ∨ n ≤ (J i).toNatClampNeg then none else some (eI f (J i).toNatClampNeg)) = _
  rw [if_neg (by rw [J_clamp (by omega), ← J_zero, J_lt (by omega) (by omega)]; omega), J_clamp (by omega)]
  unfold eI
  rw [show ((i.toNat : Nat) : Int) = i by omega]
theorem gAst_J {n : Nat} {f : Int → Int} {i v : Int} (h : 0 ≤ i ∧ i < n) (hn : n < 2147483648) : gAst (iC n (eI f)) (J i) (J v) = some (iC n (eI (fset f i v))) := by
  show (if J i < 0 ∨ n ≤ (J i).toNatClampNeg then none else some (iC n (upd (eI f) (J i).toNatClampNeg (J v)))) = _
  rw [if_neg (by rw [J_clamp (by omega), ← J_zero, J_lt (by omega) (by omega)]; omega), eI_upd f v (by omega)]
theorem gSiz_J {n : Nat} {f : Nat → Int32} : gSiz (iC n f) = some (J n) := rfl
theorem gFld_o {c k : Nat} {fs : List Value} : gFld (oC c fs) c k = fs[k]? := by
  show (if c = c then fs[k]? else none) = _
  rw [if_pos rfl]
theorem gUpd_o {c k : Nat} {fs : List Value} {v : Value} (h : k < fs.length) : gUpd (oC c fs) c k v = some (oC c (fs.set k v)) := by
  show (if c = c ∧ k < fs.length then some (oC c (fs.set k v)) else none) = _
  rw [if_pos ⟨rfl, h⟩]
theorem gIsO_o {c : Nat} {fs : List Value} : gIsO (oC c fs) c = true := by
  show decide (c = c) = true
  simp
theorem rd_wr_same {w : gWd} {a : Nat} {c : gCell} : rd (wr w a c) a = c := by
  show (if a = a then c else w.1 a) = c
  rw [if_pos rfl]
theorem rd_wr_ne {w : gWd} {a b : Nat} {c : gCell} (h : b ≠ a) : rd (wr w a c) b = rd w b := by
  show (if b = a then c else w.1 b) = w.1 b
  rw [if_neg h]
theorem wr_wr {w : gWd} {a : Nat} {c c' : gCell} : wr (wr w a c) a c' = wr w a c' := by
  unfold wr
  congr 1
  funext x
  by_cases h : x = a
  · simp [h]
  · simp [h]
theorem wr_self {w : gWd} {a : Nat} {c : gCell} (h : rd w a = c) : wr w a c = w := by
  unfold wr
  obtain ⟨f, n⟩ := w
  congr 1
  funext x
  by_cases hx : x = a
  · subst hx
    rw [if_pos rfl]
    exact h.symm
  · rw [if_neg hx]
theorem wr_comm {w : gWd} {a b : Nat} {c c' : gCell} (h : a ≠ b) : wr (wr w a c) b c' = wr (wr w b c') a c := by
  unfold wr
  congr 1
  funext x
  by_cases hx : x = b
  · subst hx
    simp [Ne.symm h]
  · by_cases hy : x = a
    · subst hy
      simp [hx]
    · simp [hx, hy]
theorem wr_2 {w : gWd} {a : Nat} {c : gCell} : (wr w a c).2 = w.2 := rfl
theorem gCat_nil : gCat [] = 0 := rfl
theorem gCat_int {x : Int32} {st : List Value} : gCat (.int x :: st) = 1 + gCat st := by simp [gCat, Value.category]
theorem gCat_ref {x : Nat} {st : List Value} : gCat (.ref x :: st) = 1 + gCat st := by simp [gCat, Value.category]
theorem gCat_null {st : List Value} : gCat (.null :: st) = 1 + gCat st := by simp [gCat, Value.category]
/-- a truth as an int -/
def B (p : Prop) [Decidable p] : Int32 := if p then J 1 else J 0
theorem B_nar (p : Prop) [Decidable p] : (narrow .boolean (.int (B p)) = .int (B p)) = True := by
  unfold B
  by_cases h : p
  · rw [if_pos h]; exact eq_true (by decide +kernel)
  · rw [if_neg h]; exact eq_true (by decide +kernel)
theorem J1_nar : (narrow .boolean (.int (J 1)) = .int (J 1)) = True := eq_true (by decide +kernel)
theorem J0_nar : (narrow .boolean (.int (J 0)) = .int (J 0)) = True := eq_true (by decide +kernel)
theorem B_0 (p : Prop) [Decidable p] : (B p = J 0) = ¬ p := by
  unfold B
  by_cases h : p
  · rw [if_pos h]; simp only [h, not_true_eq_false, eq_iff_iff, iff_false]; decide +kernel
  · rw [if_neg h]; simp [h]
theorem B_1 (p : Prop) [Decidable p] : (B p = J 1) = p := by
  unfold B
  by_cases h : p
  · rw [if_pos h]; simp [h]
  · rw [if_neg h]; simp only [h, eq_iff_iff, iff_false]; decide +kernel
theorem B_pos {p : Prop} [Decidable p] (h : p) : B p = J 1 := if_pos h
theorem B_neg {p : Prop} [Decidable p] (h : ¬ p) : B p = J 0 := if_neg h
theorem gUpd_o0 {c : Nat} {x0 v : Value} {fs : List Value} : gUpd (oC c (x0 :: fs)) c 0 v = some (oC c (v :: fs)) := gUpd_o (by simp only [List.length_cons]; omega)
theorem gUpd_o1 {c : Nat} {x0 x1 v : Value} {fs : List Value} : gUpd (oC c (x0 :: x1 :: fs)) c 1 v = some (oC c (x0 :: v :: fs)) := gUpd_o (by simp only [List.length_cons]; omega)
theorem gUpd_o2 {c : Nat} {x0 x1 x2 v : Value} {fs : List Value} : gUpd (oC c (x0 :: x1 :: x2 :: fs)) c 2 v = some (oC c (x0 :: x1 :: v :: fs)) := gUpd_o (by simp only [List.length_cons]; omega)
theorem gUpd_o3 {c : Nat} {x0 x1 x2 x3 v : Value} {fs : List Value} : gUpd (oC c (x0 :: x1 :: x2 :: x3 :: fs)) c 3 v = some (oC c (x0 :: x1 :: x2 :: v :: fs)) := gUpd_o (by simp only [List.length_cons]; omega)
theorem gUpd_o4 {c : Nat} {x0 x1 x2 x3 x4 v : Value} {fs : List Value} : gUpd (oC c (x0 :: x1 :: x2 :: x3 :: x4 :: fs)) c 4 v = some (oC c (x0 :: x1 :: x2 :: x3 :: v :: fs)) := gUpd_o (by simp only [List.length_cons]; omega)
theorem gUpd_o5 {c : Nat} {x0 x1 x2 x3 x4 x5 v : Value} {fs : List Value} : gUpd (oC c (x0 :: x1 :: x2 :: x3 :: x4 :: x5 :: fs)) c 5 v = some (oC c (x0 :: x1 :: x2 :: x3 :: x4 :: v :: fs)) := gUpd_o (by simp only [List.length_cons]; omega)
theorem gUpd_o6 {c : Nat} {x0 x1 x2 x3 x4 x5 x6 v : Value} {fs : List Value} : gUpd (oC c (x0 :: x1 :: x2 :: x3 :: x4 :: x5 :: x6 :: fs)) c 6 v = some (oC c (x0 :: x1 :: x2 :: x3 :: x4 :: x5 :: v :: fs)) := gUpd_o (by simp only [List.length_cons]; omega)
theorem gUpd_o7 {c : Nat} {x0 x1 x2 x3 x4 x5 x6 x7 v : Value} {fs : List Value} : gUpd (oC c (x0 :: x1 :: x2 :: x3 :: x4 :: x5 :: x6 :: x7 :: fs)) c 7 v = some (oC c (x0 :: x1 :: x2 :: x3 :: x4 :: x5 :: x6 :: v :: fs)) := gUpd_o (by simp only [List.length_cons]; omega)
theorem gUpd_o8 {c : Nat} {x0 x1 x2 x3 x4 x5 x6 x7 x8 v : Value} {fs : List Value} : gUpd (oC c (x0 :: x1 :: x2 :: x3 :: x4 :: x5 :: x6 :: x7 :: x8 :: fs)) c 8 v = some (oC c (x0 :: x1 :: x2 :: x3 :: x4 :: x5 :: x6 :: x7 :: v :: fs)) := gUpd_o (by simp only [List.length_cons]; omega)
theorem gUpd_o9 {c : Nat} {x0 x1 x2 x3 x4 x5 x6 x7 x8 x9 v : Value} {fs : List Value} : gUpd (oC c (x0 :: x1 :: x2 :: x3 :: x4 :: x5 :: x6 :: x7 :: x8 :: x9 :: fs)) c 9 v = some (oC c (x0 :: x1 :: x2 :: x3 :: x4 :: x5 :: x6 :: x7 :: x8 :: v :: fs)) := gUpd_o (by simp only [List.length_cons]; omega)
theorem gUpd_o10 {c : Nat} {x0 x1 x2 x3 x4 x5 x6 x7 x8 x9 x10 v : Value} {fs : List Value} : gUpd (oC c (x0 :: x1 :: x2 :: x3 :: x4 :: x5 :: x6 :: x7 :: x8 :: x9 :: x10 :: fs)) c 10 v = some (oC c (x0 :: x1 :: x2 :: x3 :: x4 :: x5 :: x6 :: x7 :: x8 :: x9 :: v :: fs)) := gUpd_o (by simp only [List.length_cons]; omega)
theorem gUpd_o11 {c : Nat} {x0 x1 x2 x3 x4 x5 x6 x7 x8 x9 x10 x11 v : Value} {fs : List Value} : gUpd (oC c (x0 :: x1 :: x2 :: x3 :: x4 :: x5 :: x6 :: x7 :: x8 :: x9 :: x10 :: x11 :: fs)) c 11 v = some (oC c (x0 :: x1 :: x2 :: x3 :: x4 :: x5 :: x6 :: x7 :: x8 :: x9 :: x10 :: v :: fs)) := gUpd_o (by simp only [List.length_cons]; omega)
theorem gUpd_o12 {c : Nat} {x0 x1 x2 x3 x4 x5 x6 x7 x8 x9 x10 x11 x12 v : Value} {fs : List Value} : gUpd (oC c (x0 :: x1 :: x2 :: x3 :: x4 :: x5 :: x6 :: x7 :: x8 :: x9 :: x10 :: x11 :: x12 :: fs)) c 12 v = some (oC c (x0 :: x1 :: x2 :: x3 :: x4 :: x5 :: x6 :: x7 :: x8 :: x9 :: x10 :: x11 :: v :: fs)) := gUpd_o (by simp only [List.length_cons]; omega)
theorem gUpd_o13 {c : Nat} {x0 x1 x2 x3 x4 x5 x6 x7 x8 x9 x10 x11 x12 x13 v : Value} {fs : List Value} : gUpd (oC c (x0 :: x1 :: x2 :: x3 :: x4 :: x5 :: x6 :: x7 :: x8 :: x9 :: x10 :: x11 :: x12 :: x13 :: fs)) c 13 v = some (oC c (x0 :: x1 :: x2 :: x3 :: x4 :: x5 :: x6 :: x7 :: x8 :: x9 :: x10 :: x11 :: x12 :: v :: fs)) := gUpd_o (by simp only [List.length_cons]; omega)
theorem gUpd_o14 {c : Nat} {x0 x1 x2 x3 x4 x5 x6 x7 x8 x9 x10 x11 x12 x13 x14 v : Value} {fs : List Value} : gUpd (oC c (x0 :: x1 :: x2 :: x3 :: x4 :: x5 :: x6 :: x7 :: x8 :: x9 :: x10 :: x11 :: x12 :: x13 :: x14 :: fs)) c 14 v = some (oC c (x0 :: x1 :: x2 :: x3 :: x4 :: x5 :: x6 :: x7 :: x8 :: x9 :: x10 :: x11 :: x12 :: x13 :: v :: fs)) := gUpd_o (by simp only [List.length_cons]; omega)
theorem gUpd_o15 {c : Nat} {x0 x1 x2 x3 x4 x5 x6 x7 x8 x9 x10 x11 x12 x13 x14 x15 v : Value} {fs : List Value} : gUpd (oC c (x0 :: x1 :: x2 :: x3 :: x4 :: x5 :: x6 :: x7 :: x8 :: x9 :: x10 :: x11 :: x12 :: x13 :: x14 :: x15 :: fs)) c 15 v = some (oC c (x0 :: x1 :: x2 :: x3 :: x4 :: x5 :: x6 :: x7 :: x8 :: x9 :: x10 :: x11 :: x12 :: x13 :: x14 :: v :: fs)) := gUpd_o (by simp only [List.length_cons]; omega)
theorem gUpd_o16 {c : Nat} {x0 x1 x2 x3 x4 x5 x6 x7 x8 x9 x10 x11 x12 x13 x14 x15 x16 v : Value} {fs : List Value} : gUpd (oC c (x0 :: x1 :: x2 :: x3 :: x4 :: x5 :: x6 :: x7 :: x8 :: x9 :: x10 :: x11 :: x12 :: x13 :: x14 :: x15 :: x16 :: fs)) c 16 v = some (oC c (x0 :: x1 :: x2 :: x3 :: x4 :: x5 :: x6 :: x7 :: x8 :: x9 :: x10 :: x11 :: x12 :: x13 :: x14 :: x15 :: v :: fs)) := gUpd_o (by simp only [List.length_cons]; omega)
theorem gUpd_o17 {c : Nat} {x0 x1 x2 x3 x4 x5 x6 x7 x8 x9 x10 x11 x12 x13 x14 x15 x16 x17 v : Value} {fs : List Value} : gUpd (oC c (x0 :: x1 :: x2 :: x3 :: x4 :: x5 :: x6 :: x7 :: x8 :: x9 :: x10 :: x11 :: x12 :: x13 :: x14 :: x15 :: x16 :: x17 :: fs)) c 17 v = some (oC c (x0 :: x1 :: x2 :: x3 :: x4 :: x5 :: x6 :: x7 :: x8 :: x9 :: x10 :: x11 :: x12 :: x13 :: x14 :: x15 :: x16 :: v :: fs)) := gUpd_o (by simp only [List.length_cons]; omega)
theorem gUpd_o18 {c : Nat} {x0 x1 x2 x3 x4 x5 x6 x7 x8 x9 x10 x11 x12 x13 x14 x15 x16 x17 x18 v : Value} {fs : List Value} : gUpd (oC c (x0 :: x1 :: x2 :: x3 :: x4 :: x5 :: x6 :: x7 :: x8 :: x9 :: x10 :: x11 :: x12 :: x13 :: x14 :: x15 :: x16 :: x17 :: x18 :: fs)) c 18 v = some (oC c (x0 :: x1 :: x2 :: x3 :: x4 :: x5 :: x6 :: x7 :: x8 :: x9 :: x10 :: x11 :: x12 :: x13 :: x14 :: x15 :: x16 :: x17 :: v :: fs)) := gUpd_o (by simp only [List.length_cons]; omega)
