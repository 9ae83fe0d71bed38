/-! the machine's steps as equations, by kinds of instruction -/
noncomputable def gX (cal : Nat → List Value → gWd → Option gRes) (nat : gNat) (j pc : Nat) (ls : gLs) (ll : gLl) (st : List Value) (w : gWd) : Option gRes := gL cal nat j (pc, ls, ll, st) w
def gFld (c : gCell) (ci k : Nat) : Option Value := match c with
  | some (.inl (c, fs)) => if c = ci then fs[k]? else none
  | _ => none
def gUpd (c : gCell) (ci k : Nat) (v : Value) : Option gCell := match c with
  | some (.inl (c, fs)) => if c = ci ∧ k < fs.length then some (oC ci (fs.set k v)) else none
  | _ => none
def gArr (c : gCell) (i : Int32) : Option Int32 := match c with
  | some (.inr (n, .inl f)) => if i < 0 ∨ n ≤ i.toNatClampNeg then none else some (f i.toNatClampNeg)
  | _ => none
def gAst (c : gCell) (i x : Int32) : Option gCell := match c with
  | some (.inr (n, .inl f)) => if i < 0 ∨ n ≤ i.toNatClampNeg then none else some (iC n (upd f i.toNatClampNeg x))
  | _ => none
def gArq (c : gCell) (i : Int32) : Option Value := match c with
  | some (.inr (n, .inr f)) => if i < 0 ∨ n ≤ i.toNatClampNeg then none else some (gQ (f i.toNatClampNeg))
  | _ => none
def gAsq (c v : gCell) (i : Int32) (b : Nat) : Option gCell := match c, v with
  | some (.inr (n, .inr f)), some (.inl (7, _)) => if i < 0 ∨ n ≤ i.toNatClampNeg then none else some (rC n (va_up f i.toNatClampNeg (some b)))
  | _, _ => none
def gSiz (c : gCell) : Option Int32 := match c with
  | some (.inr (n, _)) => some (Int32.ofNat n)
  | _ => none
def gIsO (c : gCell) (ci : Nat) : Bool := match c with
  | some (.inl (c, _)) => decide (c = ci)
  | _ => false
section XL
variable {cal : Nat → List Value → gWd → Option gRes} {nat : gNat} {j pc : Nat} {ls : gLs} {ll : gLl} {st : List Value} {w : gWd} {cc : ByteArray} {o : Nat}
theorem xP (hc : gCode j = cc) {i : Instr} {n : Nat} {f' : gFr} (hd : decode cc pc = .ok (i, n)) (h : gPure i pc ls ll st = some (n, f')) : gX cal nat j pc ls ll st w = gX cal nat j f'.1 f'.2.1 f'.2.2.1 f'.2.2.2 w := by
  refine gL_step ?_
  unfold gStep
  rw [show (pc, ls, ll, st).1 = pc from rfl, hc, hd]
  show (match gPure i pc ls ll st with
    | some (n', f') => if n' = n then some (Sum.inl (f', w)) else none
    | none => _) = _
  rw [h]
  show (if n = n then _ else _) = _
  rw [if_pos rfl]
theorem xIf (hc : gCode j = cc) {k : ClassFile.Cond} {off : Int} {t : Nat} {x : Int32} (hd : decode cc pc = .ok (.ifCond k off, 3)) (ht : gTgt pc off = some t) {P : Prop} [Decidable P] (hP : gCmp k x 0 = decide P) : gX cal nat j pc ls ll (.int x :: st) w = if P then gX cal nat j t ls ll st w else gX cal nat j (pc + 3) ls ll st w := by
  have h : gPure (.ifCond k off) pc ls ll (.int x :: st) = some (3, if gCmp k x 0 = true then t else pc + 3, ls, ll, st) := by
    show (gTgt pc off).bind _ = _
    rw [ht]
    rfl
  rw [xP hc hd h, hP]
  by_cases hp : P
  · simp [hp]
  · simp [hp]
theorem xIcmp (hc : gCode j = cc) {k : ClassFile.Cond} {off : Int} {t : Nat} {x y : Int32} (hd : decode cc pc = .ok (.if_icmp k off, 3)) (ht : gTgt pc off = some t) {P : Prop} [Decidable P] (hP : gCmp k x y = decide P) : gX cal nat j pc ls ll (.int y :: .int x :: st) w = if P then gX cal nat j t ls ll st w else gX cal nat j (pc + 3) ls ll st w := by
  have h : gPure (.if_icmp k off) pc ls ll (.int y :: .int x :: st) = some (3, if gCmp k x y = true then t else pc + 3, ls, ll, st) := by
    show (gTgt pc off).bind _ = _
    rw [ht]
    rfl
  rw [xP hc hd h, hP]
  by_cases hp : P
  · simp [hp]
  · simp [hp]
theorem xDiv (hc : gCode j = cc) {x y : Int32} (hd : decode cc pc = .ok (.idiv, 1)) : gX cal nat j pc ls ll (.int y :: .int x :: st) w = if y = 0 then none else gX cal nat j (pc + 1) ls ll (.int (x / y) :: st) w := by
  by_cases hy : y = 0
  · rw [if_pos hy]
    refine gL_bad ?_
    unfold gStep
    rw [show (pc, ls, ll, Value.int y :: Value.int x :: st).1 = pc from rfl, hc, hd]
    have h : gPure .idiv pc ls ll (.int y :: .int x :: st) = none := by
      show (if y = 0 then none else _) = none
      rw [if_pos hy]
    show (match gPure .idiv pc ls ll (.int y :: .int x :: st) with
      | some (n', f') => if n' = 1 then some (Sum.inl (f', w)) else none
      | none => _) = _
    rw [h]
    rfl
  · rw [if_neg hy]
    exact xP hc hd (f' := (pc + 1, ls, ll, .int (x / y) :: st)) (by show (if y = 0 then none else _) = _; rw [if_neg hy])
theorem xRem (hc : gCode j = cc) {x y : Int32} (hd : decode cc pc = .ok (.irem, 1)) : gX cal nat j pc ls ll (.int y :: .int x :: st) w = if y = 0 then none else gX cal nat j (pc + 1) ls ll (.int (x - x / y * y) :: st) w := by
  by_cases hy : y = 0
  · rw [if_pos hy]
    refine gL_bad ?_
    unfold gStep
    rw [show (pc, ls, ll, Value.int y :: Value.int x :: st).1 = pc from rfl, hc, hd]
    have h : gPure .irem pc ls ll (.int y :: .int x :: st) = none := by
      show (if y = 0 then none else _) = none
      rw [if_pos hy]
    show (match gPure .irem pc ls ll (.int y :: .int x :: st) with
      | some (n', f') => if n' = 1 then some (Sum.inl (f', w)) else none
      | none => _) = _
    rw [h]
    rfl
  · rw [if_neg hy]
    exact xP hc hd (f' := (pc + 1, ls, ll, .int (x - x / y * y) :: st)) (by show (if y = 0 then none else _) = _; rw [if_neg hy])
theorem xSw (hc : gCode j = cc) {i : Instr} {n : Nat} {f' : gFr} (hd : decode cc pc = .ok (i, n)) (h0 : gPure i pc ls ll st = none) (h : gSw i pc ls ll st = some f') : gX cal nat j pc ls ll st w = gX cal nat j f'.1 f'.2.1 f'.2.2.1 f'.2.2.2 w := by
  refine gL_step ?_
  unfold gStep
  rw [show (pc, ls, ll, st).1 = pc from rfl, hc, hd]
  show (match gPure i pc ls ll st with
    | some (n', f') => if n' = n then some (Sum.inl (f', w)) else none
    | none => match gSw i pc ls ll st with
      | some f' => some (Sum.inl (f', w))
      | none => _) = _
  rw [h0, h]
/-- what touches cells, as an equation -/
theorem xH (hc : gCode j = cc) {i : Instr} {n : Nat} (hd : decode cc pc = .ok (i, n)) (h0 : gPure i pc ls ll st = none) (h1 : gSw i pc ls ll st = none) {x : Option (Nat × ((gFr × gWd) ⊕ gRes))} (h : gHeap cal nat j i pc ls ll st w = x) : gX cal nat j pc ls ll st w = x.bind fun q => if q.1 = n then (match q.2 with
    | .inl q => gX cal nat j q.1.1 q.1.2.1 q.1.2.2.1 q.1.2.2.2 q.2
    | .inr q => some q) else none := by
  have e : gStep cal nat j (pc, ls, ll, st) w = x.bind fun q => if q.1 = n then some q.2 else none := by
    unfold gStep
    rw [show (pc, ls, ll, st).1 = pc from rfl, hc, hd]
    show (match gPure i pc ls ll st with
      | some (n', f') => if n' = n then some (Sum.inl (f', w)) else none
      | none => match gSw i pc ls ll st with
        | some f' => some (Sum.inl (f', w))
        | none => match gHeap cal nat j i pc ls ll st w with
          | some (n', o) => if n' = n then some o else none
          | none => none) = _
    rw [h0, h1, h]
    cases x with
    | none => rfl
    | some q => rfl
  cases x with
  | none => exact gL_bad e
  | some q =>
    obtain ⟨a, q⟩ := q
    have e : gStep cal nat j (pc, ls, ll, st) w = if a = n then some q else none := e
    show gX cal nat j pc ls ll st w = if a = n then _ else none
    by_cases ha : a = n
    · rw [if_pos ha] at e ⊢
      cases q with
      | inl q => exact gL_step e
      | inr q => exact gL_end e
    · rw [if_neg ha] at e ⊢
      exact gL_bad e
theorem gCall_v {kd t : Nat} (hk : kd = 0 ∨ kd = 7) : gCall cal nat kd t pc ls ll st w = (match st.drop (gArg t) with
    | .ref b :: rest => match rd w b with
      | some (.inl (ci, _)) => if ci = gOwn t ∧ gCat rest ≤ 8 then gBack pc ls ll rest (cal t (.ref b :: (st.take (gArg t)).reverse) w) else none
      | _ => none
    | _ => none) := by rcases hk with rfl | rfl <;> rfl
theorem gCall_s {kd t : Nat} (hk : kd = 1 ∨ kd = 2) : gCall cal nat kd t pc ls ll st w = if gArg t ≤ st.length ∧ gCat (st.drop (gArg t)) ≤ 8 then gBack pc ls ll (st.drop (gArg t)) (cal t (st.take (gArg t)).reverse w) else none := by rcases hk with rfl | rfl <;> rfl
theorem gCall_8 {t : Nat} {x y : Int32} : gCall cal nat 8 t pc ls ll (.int y :: .int x :: st) w = if gCat st ≤ 8 then gNx 3 pc ls ll (.int (if y < x then y else x) :: st) w else none := rfl
theorem gCall_9 {t : Nat} {x y : Int32} : gCall cal nat 9 t pc ls ll (.int y :: .int x :: st) w = if gCat st ≤ 8 then gNx 3 pc ls ll (.int (if x < y then y else x) :: st) w else none := rfl
theorem xGet (hc : gCode j = cc) (ho : gOwn j = o) {ix ci k a : Nat} (hd : decode cc pc = .ok (.getfield ix, 3)) (hf : gFind (gFS o) ix = some (ci, k)) : gX cal nat j pc ls ll (.ref a :: st) w = (gFld (rd w a) ci k).bind fun v => gX cal nat j (pc + 3) ls ll (v :: st) w := by
  refine (xH hc hd rfl rfl rfl).trans ?_
  unfold gHeap
  dsimp only
  rw [ho, hf]
  dsimp only
  unfold gFld
  cases rd w a with
  | none => rfl
  | some c =>
    cases c with
    | inr x => rfl
    | inl x =>
      obtain ⟨c, fs⟩ := x
      dsimp only
      by_cases hcc : c = ci
      · rw [if_pos hcc, if_pos hcc]
        cases fs[k]? <;> rfl
      · rw [if_neg hcc, if_neg hcc]
        rfl
theorem xPut (hc : gCode j = cc) (ho : gOwn j = o) {ix ci k a : Nat} {v : Value} (hd : decode cc pc = .ok (.putfield ix, 3)) (hf : gFind (gFS o) ix = some (ci, k)) (hn : narrow (gTy ci k) v = v) (hfit : fits (gTy ci k) v = true) (hfin : (gT ci k).2.2.2 = true → (gName j).name = "<init>" ∧ o = ci) : gX cal nat j pc ls ll (v :: .ref a :: st) w = (gUpd (rd w a) ci k v).bind fun c => gX cal nat j (pc + 3) ls ll st (wr w a c) := by
  refine (xH hc hd rfl rfl rfl).trans ?_
  unfold gHeap
  dsimp only
  rw [ho, hf]
  dsimp only
  unfold gUpd
  cases rd w a with
  | none => rfl
  | some c =>
    cases c with
    | inr x => rfl
    | inl x =>
      obtain ⟨c, fs⟩ := x
      dsimp only
      by_cases hcc : c = ci ∧ k < fs.length
      · rw [if_pos hcc, if_pos ⟨hcc.1, hcc.2, hn, hfit, hfin⟩]
        rfl
      · rw [if_neg hcc, if_neg (fun q => hcc ⟨q.1, q.2.1⟩)]
        rfl
theorem xLen (hc : gCode j = cc) {a : Nat} (hd : decode cc pc = .ok (.arraylength, 1)) (ha : a < gSTR) : gX cal nat j pc ls ll (.ref a :: st) w = (gSiz (rd w a)).bind fun x => gX cal nat j (pc + 1) ls ll (.int x :: st) w := by
  refine (xH hc hd rfl rfl rfl).trans ?_
  unfold gHeap
  dsimp only
  unfold gSiz
  cases rd w a with
  | none =>
    dsimp only
    rw [if_neg (fun q => absurd (q ▸ ha) (Nat.not_lt.mpr (Nat.le_of_ble_eq_true rfl)))]
    rfl
  | some c =>
    cases c with
    | inl x => rfl
    | inr x => rfl
theorem xIald (hc : gCode j = cc) {a : Nat} {i : Int32} (hd : decode cc pc = .ok (.iaload, 1)) (ha : a < gSTR) : gX cal nat j pc ls ll (.int i :: .ref a :: st) w = (gArr (rd w a) i).bind fun x => gX cal nat j (pc + 1) ls ll (.int x :: st) w := by
  refine (xH hc hd rfl rfl rfl).trans ?_
  unfold gHeap
  dsimp only
  unfold gArr
  cases rd w a with
  | none =>
    dsimp only
    rw [if_neg (fun q => absurd (q ▸ ha) (Nat.not_lt.mpr (Nat.le_of_ble_eq_true rfl)))]
    rfl
  | some c =>
    cases c with
    | inl x => rfl
    | inr x =>
      obtain ⟨n, f | f⟩ := x
      · dsimp only
        by_cases hi : i < 0 ∨ n ≤ i.toNatClampNeg
        · rw [if_pos hi, if_pos hi]; rfl
        · rw [if_neg hi, if_neg hi]; rfl
      · rfl
theorem xIast (hc : gCode j = cc) {a : Nat} {i x : Int32} (hd : decode cc pc = .ok (.iastore, 1)) : gX cal nat j pc ls ll (.int x :: .int i :: .ref a :: st) w = (gAst (rd w a) i x).bind fun c => gX cal nat j (pc + 1) ls ll st (wr w a c) := by
  refine (xH hc hd rfl rfl rfl).trans ?_
  unfold gHeap
  dsimp only
  unfold gAst
  cases rd w a with
  | none => rfl
  | some c =>
    cases c with
    | inl x => rfl
    | inr x =>
      obtain ⟨n, f | f⟩ := x
      · dsimp only
        by_cases hi : i < 0 ∨ n ≤ i.toNatClampNeg
        · rw [if_pos hi, if_pos hi]; rfl
        · rw [if_neg hi, if_neg hi]; rfl
      · rfl
theorem xAald (hc : gCode j = cc) {a : Nat} {i : Int32} (hd : decode cc pc = .ok (.aaload, 1)) : gX cal nat j pc ls ll (.int i :: .ref a :: st) w = (gArq (rd w a) i).bind fun x => gX cal nat j (pc + 1) ls ll (x :: st) w := by
  refine (xH hc hd rfl rfl rfl).trans ?_
  unfold gHeap
  dsimp only
  unfold gArq
  cases rd w a with
  | none => rfl
  | some c =>
    cases c with
    | inl x => rfl
    | inr x =>
      obtain ⟨n, f | f⟩ := x
      · rfl
      · dsimp only
        by_cases hi : i < 0 ∨ n ≤ i.toNatClampNeg
        · rw [if_pos hi, if_pos hi]; rfl
        · rw [if_neg hi, if_neg hi]; rfl
theorem xRetI (hc : gCode j = cc) {v : Int32} {ty : FieldType} (hd : decode cc pc = .ok (.ireturn, 1)) (hr : gRet j = some ty) : gX cal nat j pc ls ll [.int v] w = if narrow ty (.int v) = .int v then some (some (.int v), w) else none := by
  refine (xH hc hd rfl rfl rfl).trans ?_
  unfold gHeap
  dsimp only
  rw [hr]
  dsimp only
  by_cases hn : narrow ty (.int v) = .int v
  · rw [if_pos hn, if_pos hn]; rfl
  · rw [if_neg hn, if_neg hn]; rfl
theorem xRetA (hc : gCode j = cc) {a : Nat} {ty : String} (hd : decode cc pc = .ok (.areturn, 1)) (hr : gRet j = some (.object ty)) : gX cal nat j pc ls ll [.ref a] w = some (some (.ref a), w) := by
  refine (xH hc hd rfl rfl rfl).trans ?_
  unfold gHeap
  dsimp only
  rw [hr]
  rfl
theorem xRetV (hc : gCode j = cc) (hd : decode cc pc = .ok (.return_, 1)) (hr : gRet j = none) : gX cal nat j pc ls ll [] w = some (none, w) := by
  refine (xH hc hd rfl rfl rfl).trans ?_
  unfold gHeap
  dsimp only
  rw [hr]
  rfl
theorem xK (hc : gCode j = cc) (ho : gOwn j = o) {ix : Nat} {x : (Nat × Nat) × Int32} {i : Instr} {n : Nat} (hi : (i = .ldc ix ∧ n = 2) ∨ (i = .ldc_w ix ∧ n = 3)) (hd : decode cc pc = .ok (i, n)) (hf : gKS.find? (fun q => q.1 == (o, ix)) = some x) : gX cal nat j pc ls ll st w = gX cal nat j (pc + n) ls ll (.int x.2 :: st) w := by
  rcases hi with ⟨rfl, rfl⟩ | ⟨rfl, rfl⟩
  · refine (xH hc hd rfl rfl rfl).trans ?_
    unfold gHeap
    dsimp only
    rw [ho, hf]
    rfl
  · refine (xH hc hd rfl rfl rfl).trans ?_
    unfold gHeap
    dsimp only
    rw [ho, hf]
    rfl
theorem xKL (hc : gCode j = cc) (ho : gOwn j = o) {ix : Nat} {x : (Nat × Nat) × Int64} (hd : decode cc pc = .ok (.ldc2_w ix, 3)) (hf : gKL.find? (fun q => q.1 == (o, ix)) = some x) : gX cal nat j pc ls ll st w = gX cal nat j (pc + 3) ls ll (.long x.2 :: st) w := by
  refine (xH hc hd rfl rfl rfl).trans ?_
  unfold gHeap
  dsimp only
  rw [ho, hf]
  rfl
/-- a call of an object's method: as: the arguments in their order -/
theorem xVirt (hc : gCode j = cc) (ho : gOwn j = o) {ix kd t b : Nat} {as : List Value} {oc : Nat} (hd : decode cc pc = .ok (.invokevirtual ix, 3)) (hf : gFind (gCS o) ix = some (kd, t)) (hk : kd = 0 ∨ kd = 7) (hn : gArg t = as.length) (hot : gOwn t = oc) : gX cal nat j pc ls ll (as.reverse ++ .ref b :: st) w = if gIsO (rd w b) oc = true ∧ gCat st ≤ 8 then (cal t (.ref b :: as) w).bind fun q => gX cal nat j (pc + 3) ls ll (q.1.toList ++ st) q.2 else none := by
  have h1 : (as.reverse ++ .ref b :: st).drop (gArg t) = .ref b :: st := by rw [hn, ← List.length_reverse (as := as), List.drop_left]
  have h2 : ((as.reverse ++ .ref b :: st).take (gArg t)).reverse = as := by rw [hn, ← List.length_reverse (as := as), List.take_left, List.reverse_reverse]
  refine (xH hc hd rfl rfl rfl).trans ?_
  have e : gHeap cal nat j (.invokevirtual ix) pc ls ll (as.reverse ++ .ref b :: st) w = if gIsO (rd w b) oc = true ∧ gCat st ≤ 8 then gBack pc ls ll st (cal t (.ref b :: as) w) else none := by
    unfold gHeap
    dsimp only
    rw [ho, hf]
    dsimp only
    rw [if_pos (by rcases hk with rfl | rfl <;> decide)]
    rw [gCall_v hk, h1]
    dsimp only
    rw [h2, hot]
    unfold gIsO
    cases rd w b with
    | none => simp
    | some c =>
      cases c with
      | inr x => simp
      | inl x => simp
  rw [e]
  by_cases hcnd : gIsO (rd w b) oc = true ∧ gCat st ≤ 8
  · rw [if_pos hcnd, if_pos hcnd]
    cases cal t (.ref b :: as) w <;> rfl
  · rw [if_neg hcnd, if_neg hcnd]
    rfl
theorem xStat (hc : gCode j = cc) (ho : gOwn j = o) {ix kd t : Nat} {as : List Value} (hd : decode cc pc = .ok (.invokestatic ix, 3)) (hf : gFind (gCS o) ix = some (kd, t)) (hk : kd = 1 ∨ kd = 2) (hn : gArg t = as.length) : gX cal nat j pc ls ll (as.reverse ++ st) w = if gCat st ≤ 8 then (cal t as w).bind fun q => gX cal nat j (pc + 3) ls ll (q.1.toList ++ st) q.2 else none := by
  have h1 : (as.reverse ++ st).drop (gArg t) = st := by rw [hn, ← List.length_reverse (as := as), List.drop_left]
  have h2 : ((as.reverse ++ st).take (gArg t)).reverse = as := by rw [hn, ← List.length_reverse (as := as), List.take_left, List.reverse_reverse]
  have h3 : gArg t ≤ (as.reverse ++ st).length := by rw [List.length_append, List.length_reverse, hn]; omega
  refine (xH hc hd rfl rfl rfl).trans ?_
  have e : gHeap cal nat j (.invokestatic ix) pc ls ll (as.reverse ++ st) w = if gCat st ≤ 8 then gBack pc ls ll st (cal t as w) else none := by
    unfold gHeap
    dsimp only
    rw [ho, hf]
    dsimp only
    rw [if_pos (by rcases hk with rfl | rfl <;> decide)]
    rw [gCall_s hk, h1, h2]
    by_cases h8 : gCat st ≤ 8
    · rw [if_pos h8, if_pos ⟨h3, h8⟩]
    · rw [if_neg h8, if_neg (fun q => h8 q.2)]
  rw [e]
  by_cases h8 : gCat st ≤ 8
  · rw [if_pos h8, if_pos h8]
    cases cal t as w <;> rfl
  · rw [if_neg h8, if_neg h8]
    rfl
theorem xMin (hc : gCode j = cc) (ho : gOwn j = o) {ix t : Nat} {x y : Int32} (hd : decode cc pc = .ok (.invokestatic ix, 3)) (hf : gFind (gCS o) ix = some (8, t)) : gX cal nat j pc ls ll (.int y :: .int x :: st) w = if gCat st ≤ 8 then gX cal nat j (pc + 3) ls ll (.int (if y < x then y else x) :: st) w else none := by
  refine (xH hc hd rfl rfl rfl).trans ?_
  unfold gHeap
  dsimp only
  rw [ho, hf]
  dsimp only
  rw [if_pos (by decide), gCall_8]
  by_cases h8 : gCat st ≤ 8
  · rw [if_pos h8, if_pos h8]; rfl
  · rw [if_neg h8, if_neg h8]; rfl
theorem xMax (hc : gCode j = cc) (ho : gOwn j = o) {ix t : Nat} {x y : Int32} (hd : decode cc pc = .ok (.invokestatic ix, 3)) (hf : gFind (gCS o) ix = some (9, t)) : gX cal nat j pc ls ll (.int y :: .int x :: st) w = if gCat st ≤ 8 then gX cal nat j (pc + 3) ls ll (.int (if x < y then y else x) :: st) w else none := by
  refine (xH hc hd rfl rfl rfl).trans ?_
  unfold gHeap
  dsimp only
  rw [ho, hf]
  dsimp only
  rw [if_pos (by decide), gCall_9]
  by_cases h8 : gCat st ≤ 8
  · rw [if_pos h8, if_pos h8]; rfl
  · rw [if_neg h8, if_neg h8]; rfl
end XL
theorem xEnter {nat : gNat} {d j : Nat} {as : List Value} {w : gWd} (h193 : j < 193) (hl : as.length = gArg j + (if gSta j = true then 0 else 1)) (hm : as.length ≤ gMax j) (hc : ∀ v ∈ as, v.category = 1) {f : gFr} (hf : gIn j as = f) : gC nat (d + 1) j as w = gX (gC nat d) nat j f.1 f.2.1 f.2.2.1 f.2.2.2 w := by
  subst hf
  show (if j < 193 ∧ as.length = gArg j + (if gSta j = true then 0 else 1) ∧ as.length ≤ gMax j ∧ (∀ v ∈ as, v.category = 1) then gL (gC nat d) nat j (gIn j as) w else none) = _
  rw [if_pos ⟨h193, hl, hm, hc⟩]
  rfl
