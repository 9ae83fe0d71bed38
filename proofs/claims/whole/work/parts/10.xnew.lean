/-- an int by its number -/
def J (x : Int) : Int32 := Int32.ofInt x
theorem J_zero : J 0 = 0 := by decide +kernel
/-! .. of constructors, and of what is left open -/
section XN
variable {cal : Nat → List Value → gWd → Option gRes} {nat : gNat} {j pc : Nat} {ls : gLs} {ll : gLl} {st : List Value} {w : gWd} {cc : ByteArray} {o : Nat}
theorem xPe (hc : gCode j = cc) {i : Instr} {n pc' : Nat} {ls' : gLs} {ll' : gLl} {st' : List Value} (hd : decode cc pc = .ok (i, n)) (h : gPure i pc ls ll st = some (n, (pc', ls', ll', st'))) : gX cal nat j pc ls ll st w = gX cal nat j pc' ls' ll' st' w := xP hc hd h
theorem xSe (hc : gCode j = cc) {i : Instr} {n pc' : Nat} {ls' : gLs} {ll' : gLl} {st' : List Value} (hd : decode cc pc = .ok (i, n)) (h0 : gPure i pc ls ll st = none) (h : gSw i pc ls ll st = some (pc', ls', ll', st')) : gX cal nat j pc ls ll st w = gX cal nat j pc' ls' ll' st' w := xSw hc hd h0 h
theorem xBip (hc : gCode j = cc) {n : Int} {v : Int32} (hd : decode cc pc = .ok (.bipush n, 2)) (hv : (Int8.ofInt n).toInt32 = v) : gX cal nat j pc ls ll st w = gX cal nat j (pc + 2) ls ll (.int v :: st) w := by subst hv; exact xP hc hd rfl
theorem xSip (hc : gCode j = cc) {n : Int} {v : Int32} (hd : decode cc pc = .ok (.sipush n, 3)) (hv : (Int16.ofInt n).toInt32 = v) : gX cal nat j pc ls ll st w = gX cal nat j (pc + 3) ls ll (.int v :: st) w := by subst hv; exact xP hc hd rfl
theorem xIco (hc : gCode j = cc) {n : Int} {v : Int32} (hd : decode cc pc = .ok (.iconst n, 1)) (hv : Int32.ofInt n = v) : gX cal nat j pc ls ll st w = gX cal nat j (pc + 1) ls ll (.int v :: st) w := by subst hv; exact xP hc hd rfl
theorem xInc (hc : gCode j = cc) {i : Nat} {n : Int} {v x : Int32} {ls' : gLs} {ll' : gLl} (hd : decode cc pc = .ok (.iinc i n, 3)) (hv : Int32.ofInt n = v) (hx : ls[i]? = some (some (.int x))) (hs : ls.set i (some (.int (x + v))) = ls') (hl : gClr ll i = ll') : gX cal nat j pc ls ll st w = gX cal nat j (pc + 3) ls' ll' st w := by
  subst hv
  subst hs
  subst hl
  refine xP hc hd (f' := (pc + 3, ls.set i (some (.int (x + Int32.ofInt n))), gClr ll i, st)) ?_
  show (match ls[i]? with
    | some (some (.int x)) => some (3, pc + 3, ls.set i (some (.int (x + Int32.ofInt n))), gClr ll i, st)
    | _ => none) = _
  rw [hx]
theorem xNew (hc : gCode j = cc) (ho : gOwn j = o) {ix ci n : Nat} {fs : List Value} (hd : decode cc pc = .ok (.new ix, 3)) (hf : gFind2 (gNS o) ix = some ci) (hn : gN ci = n) (hfs : ((List.range (gN ci)).map fun k => defaultValue (gTy ci k)) = fs) : gX cal nat j pc ls ll st w = if gSTR ≤ w.2.1 then none else gX cal nat j (pc + 3) ls ll (.ref w.2.1 :: st) (al w (oC ci fs) n) := by
  refine (xH hc hd rfl rfl rfl).trans ?_
  unfold gHeap
  dsimp only
  rw [ho, hf]
  dsimp only
  rw [hfs, hn]
  by_cases h : gSTR ≤ w.2.1
  · rw [if_pos h, if_pos h]; rfl
  · rw [if_neg h, if_neg h]; rfl
theorem xNewa (hc : gCode j = cc) {k : Int32} (hd : decode cc pc = .ok (.newarray .int, 2)) : gX cal nat j pc ls ll (.int k :: st) w = if k < 0 ∨ 536870912 < k.toNatClampNeg * 4 ∨ gSTR ≤ w.2.1 then none else gX cal nat j (pc + 2) ls ll (.ref w.2.1 :: st) (al w (iC k.toNatClampNeg (fun _ => 0)) k.toNatClampNeg) := by
  refine (xH hc hd rfl rfl rfl).trans ?_
  unfold gHeap
  dsimp only
  by_cases h : k < 0 ∨ 536870912 < k.toNatClampNeg * 4 ∨ gSTR ≤ w.2.1
  · rw [if_pos h, if_pos h]; rfl
  · rw [if_neg h, if_neg h]; rfl
theorem xNewq (hc : gCode j = cc) (ho : gOwn j = o) {ix : Nat} {k : Int32} (hd : decode cc pc = .ok (.anewarray ix, 3)) (hf : gFind2 (gNS o) ix = some 7) : gX cal nat j pc ls ll (.int k :: st) w = if k < 0 ∨ 536870912 < k.toNatClampNeg * 4 ∨ gSTR ≤ w.2.1 then none else gX cal nat j (pc + 3) ls ll (.ref w.2.1 :: st) (al w (rC k.toNatClampNeg (fun _ => none)) k.toNatClampNeg) := by
  refine (xH hc hd rfl rfl rfl).trans ?_
  unfold gHeap
  dsimp only
  rw [ho, hf]
  try dsimp only
  by_cases h : k < 0 ∨ 536870912 < k.toNatClampNeg * 4 ∨ gSTR ≤ w.2.1
  · rw [if_pos h, if_pos h]; rfl
  · rw [if_neg h, if_neg h]; rfl
theorem xAast (hc : gCode j = cc) {a v : Nat} {i : Int32} (hd : decode cc pc = .ok (.aastore, 1)) : gX cal nat j pc ls ll (.ref v :: .int i :: .ref a :: st) w = (gAsq (rd w a) (rd w v) i v).bind fun c => gX cal nat j (pc + 1) ls ll st (wr w a c) := by
  refine (xH hc hd rfl rfl rfl).trans ?_
  unfold gHeap
  dsimp only
  unfold gAsq
  cases rd w a with
  | none => rfl
  | some c =>
    cases c with
    | inl x => rfl
    | inr x =>
      obtain ⟨n, f | f⟩ := x
      · rfl
      · dsimp only
        cases rd w v with
        | none => rfl
        | some c2 =>
          cases c2 with
          | inr y => rfl
          | inl y =>
            obtain ⟨c3, fs⟩ := y
            dsimp only
            by_cases h7 : c3 = 7
            · subst h7
              rw [if_pos rfl]
              try dsimp only
              by_cases hi : i < 0 ∨ n ≤ i.toNatClampNeg
              · rw [if_pos hi]; simp [hi]
              · rw [if_neg hi]; simp [hi, gNx]
            · rw [if_neg h7]
              split
              · rename_i heq
                cases heq
                exact absurd rfl h7
              · rfl
theorem gInit_6 {t a : Nat} : gInit cal nat 6 t pc ls ll (.ref a :: st) w = if gCat st ≤ 8 then gNx 3 pc ls ll st w else none := rfl
theorem xObj (hc : gCode j = cc) (ho : gOwn j = o) {ix t a : Nat} (hd : decode cc pc = .ok (.invokespecial ix, 3)) (hf : gFind (gCS o) ix = some (6, t)) : gX cal nat j pc ls ll (.ref a :: st) w = if gCat st ≤ 8 then gX cal nat j (pc + 3) ls ll st w else none := by
  refine (xH hc hd rfl rfl rfl).trans ?_
  unfold gHeap
  dsimp only
  rw [ho, hf]
  dsimp only
  rw [gInit_6]
  by_cases h8 : gCat st ≤ 8
  · rw [if_pos h8, if_pos h8]; rfl
  · rw [if_neg h8, if_neg h8]; rfl
theorem gInit_c {kd t : Nat} (hk : kd = 3 ∨ kd = 4) : gInit cal nat kd t pc ls ll st w = (match st.drop (gArg t) with
    | .ref b :: rest => if gCat rest ≤ 8 then gBack pc ls ll rest (cal t (.ref b :: (st.take (gArg t)).reverse) w) else none
    | _ => none) := by rcases hk with rfl | rfl <;> rfl
theorem xCtor (hc : gCode j = cc) (ho : gOwn j = o) {ix kd t b : Nat} {as : List Value} (hd : decode cc pc = .ok (.invokespecial ix, 3)) (hf : gFind (gCS o) ix = some (kd, t)) (hk : kd = 3 ∨ kd = 4) (hn : gArg t = as.length) : gX cal nat j pc ls ll (as.reverse ++ .ref b :: st) w = if gCat st ≤ 8 then (cal t (.ref b :: as) w).bind fun q => gX cal nat j (pc + 3) ls ll (q.1.toList ++ st) q.2 else none := by
  have h1 : (as.reverse ++ .ref b :: st).drop (gArg t) = .ref b :: st := by rw [hn, ← List.length_reverse (as := as), List.drop_left]
  have h2 : ((as.reverse ++ .ref b :: st).take (gArg t)).reverse = as := by rw [hn, ← List.length_reverse (as := as), List.take_left, List.reverse_reverse]
  refine (xH hc hd rfl rfl rfl).trans ?_
  unfold gHeap
  dsimp only
  rw [ho, hf]
  dsimp only
  rw [gInit_c hk, h1]
  try dsimp only
  rw [h2]
  by_cases h8 : gCat st ≤ 8
  · rw [if_pos h8, if_pos h8]
    cases cal t (.ref b :: as) w <;> rfl
  · rw [if_neg h8, if_neg h8]
    rfl
theorem gInit_5 {t : Nat} : gInit cal nat 5 t pc ls ll st w = (match st.drop (gArg t) with
    | .ref b :: rest => if gCat rest ≤ 8 then (nat.2 t (.ref b :: (st.take (gArg t)).reverse) w).bind fun u => if w.2.1 ≤ u.2.2.1 ∧ w.2.2 ≤ u.2.2.2 then gBack pc ls ll rest (some u) else none else none
    | _ => none) := rfl
theorem xCtorN (hc : gCode j = cc) (ho : gOwn j = o) {ix t b : Nat} {as : List Value} (hd : decode cc pc = .ok (.invokespecial ix, 3)) (hf : gFind (gCS o) ix = some (5, t)) (hn : gArg t = as.length) : gX cal nat j pc ls ll (as.reverse ++ .ref b :: st) w = if gCat st ≤ 8 then (nat.2 t (.ref b :: as) w).bind fun q => if w.2.1 ≤ q.2.2.1 ∧ w.2.2 ≤ q.2.2.2 then gX cal nat j (pc + 3) ls ll (q.1.toList ++ st) q.2 else none else none := by
  have h1 : (as.reverse ++ .ref b :: st).drop (gArg t) = .ref b :: st := by rw [hn, ← List.length_reverse (as := as), List.drop_left]
  have h2 : ((as.reverse ++ .ref b :: st).take (gArg t)).reverse = as := by rw [hn, ← List.length_reverse (as := as), List.take_left, List.reverse_reverse]
  refine (xH hc hd rfl rfl rfl).trans ?_
  unfold gHeap
  dsimp only
  rw [ho, hf]
  dsimp only
  rw [gInit_5, h1]
  try dsimp only
  rw [h2]
  by_cases h8 : gCat st ≤ 8
  · rw [if_pos h8, if_pos h8]
    cases nat.2 t (.ref b :: as) w with
    | none => rfl
    | some u =>
      show (Option.bind (if w.2.1 ≤ u.2.2.1 ∧ w.2.2 ≤ u.2.2.2 then gBack pc ls ll st (some u) else none) _) = if w.2.1 ≤ u.2.2.1 ∧ w.2.2 ≤ u.2.2.2 then _ else none
      by_cases h9 : w.2.1 ≤ u.2.2.1 ∧ w.2.2 ≤ u.2.2.2
      · rw [if_pos h9, if_pos h9]; rfl
      · rw [if_neg h9, if_neg h9]; rfl
  · rw [if_neg h8, if_neg h8]
    rfl
theorem gCall_10 {t b : Nat} : gCall cal nat 10 t pc ls ll (.ref b :: st) w = if b = gSTR ∧ gCat st ≤ 8 then (nat.1 10 []).bind fun v => gNx 3 pc ls ll (v :: st) w else none := rfl
theorem gCall_11 {t b : Nat} {x : Int32} : gCall cal nat 11 t pc ls ll (.int x :: .ref b :: st) w = if b = gSTR ∧ gCat st ≤ 8 then (nat.1 11 [.int x]).bind fun v => gNx 3 pc ls ll (v :: st) w else none := rfl
theorem xN10 (hc : gCode j = cc) (ho : gOwn j = o) {ix t : Nat} (hd : decode cc pc = .ok (.invokevirtual ix, 3)) (hf : gFind (gCS o) ix = some (10, t)) : gX cal nat j pc ls ll (.ref gSTR :: st) w = if gCat st ≤ 8 then (nat.1 10 []).bind fun v => gX cal nat j (pc + 3) ls ll (v :: st) w else none := by
  refine (xH hc hd rfl rfl rfl).trans ?_
  unfold gHeap
  dsimp only
  rw [ho, hf]
  dsimp only
  rw [if_pos (by decide), gCall_10]
  by_cases h8 : gCat st ≤ 8
  · rw [if_pos h8, if_pos ⟨rfl, h8⟩]
    cases nat.1 10 [] <;> rfl
  · rw [if_neg h8, if_neg (fun q => h8 q.2)]
    rfl
theorem xN11 (hc : gCode j = cc) (ho : gOwn j = o) {ix t : Nat} {x : Int32} (hd : decode cc pc = .ok (.invokevirtual ix, 3)) (hf : gFind (gCS o) ix = some (11, t)) : gX cal nat j pc ls ll (.int x :: .ref gSTR :: st) w = if gCat st ≤ 8 then (nat.1 11 [.int x]).bind fun v => gX cal nat j (pc + 3) ls ll (v :: st) w else none := by
  refine (xH hc hd rfl rfl rfl).trans ?_
  unfold gHeap
  dsimp only
  rw [ho, hf]
  dsimp only
  rw [if_pos (by decide), gCall_11]
  by_cases h8 : gCat st ≤ 8
  · rw [if_pos h8, if_pos ⟨rfl, h8⟩]
    cases nat.1 11 [.int x] <;> rfl
  · rw [if_neg h8, if_neg (fun q => h8 q.2)]
    rfl
theorem xN12 (hc : gCode j = cc) (ho : gOwn j = 8) (hd : decode cc pc = .ok (.ldc 84, 2)) (hf : gKS.find? (fun q => q.1 == (8, 84)) = none) : gX cal nat j pc ls ll st w = (nat.1 12 []).bind fun v => gX cal nat j (pc + 2) ls ll (v :: st) w := by
  refine (xH hc hd rfl rfl rfl).trans ?_
  unfold gHeap
  dsimp only
  rw [ho, hf]
  dsimp only
  rw [if_pos ⟨rfl, rfl⟩]
  cases nat.1 12 [] <;> rfl
theorem xN13 (hc : gCode j = cc) {i : Int32} (hd : decode cc pc = .ok (.iaload, 1)) (hr : rd w gSCR = none) : gX cal nat j pc ls ll (.int i :: .ref gSCR :: st) w = (nat.1 13 [.int i]).bind fun v => gX cal nat j (pc + 1) ls ll (v :: st) w := by
  refine (xH hc hd rfl rfl rfl).trans ?_
  unfold gHeap
  dsimp only
  rw [hr]
  dsimp only
  rw [if_pos rfl]
  cases nat.1 13 [.int i] <;> rfl
theorem xN14 (hc : gCode j = cc) (hd : decode cc pc = .ok (.arraylength, 1)) (hr : rd w gSCR = none) : gX cal nat j pc ls ll (.ref gSCR :: st) w = (nat.1 14 []).bind fun v => gX cal nat j (pc + 1) ls ll (v :: st) w := by
  refine (xH hc hd rfl rfl rfl).trans ?_
  unfold gHeap
  dsimp only
  rw [hr]
  dsimp only
  rw [if_pos rfl]
  cases nat.1 14 [] <;> rfl
end XN
