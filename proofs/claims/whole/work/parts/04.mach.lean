/-! THE ONE MACHINE: a small interpreter over worlds of cells (references are places of a list), on the claim's own bytes; part 05 ties it to the kit's judgements once and for all -/
abbrev gCell : Type := Option ((Nat × List Value) ⊕ (Nat × ((Nat → Int32) ⊕ (Nat → Option Nat))))
/-- cells, how many, how many slots were made -/
abbrev gWd : Type := (Nat → gCell) × Nat × Nat
def oC (ci : Nat) (fs : List Value) : gCell := some (.inl (ci, fs))
def iC (n : Nat) (f : Nat → Int32) : gCell := some (.inr (n, .inl f))
def rC (n : Nat) (f : Nat → Option Nat) : gCell := some (.inr (n, .inr f))
def rd (w : gWd) (a : Nat) : gCell := w.1 a
def wr (w : gWd) (a : Nat) (c : gCell) : gWd := (fun x => if x = a then c else w.1 x, w.2)
def al (w : gWd) (c : gCell) (k : Nat) : gWd := (fun x => if x = w.2.1 then c else w.1 x, w.2.1 + 1, w.2.2 + k)
abbrev gLs : Type := List (Option Value)
abbrev gLl : Type := List (Option Int64)
/-- place, locals, long locals, stack -/
abbrev gFr : Type := Nat × gLs × gLl × List Value
abbrev gRes : Type := Option Value × gWd
def gSTR : Nat := 1000000000
def gSCR : Nat := 1000000001
/-- what isn't run on this machine: members of a String constant, the script, one constructor -/
abbrev gNat : Type := (Nat → List Value → Option Value) × (Nat → List Value → gWd → Option gRes)
/-- the law, beside the methods of the list -/
abbrev gLaw : gMe := (yL_law, cL_law, 4, some .boolean, 1, true, 11)
def gME (j : Nat) : gMe := if j = 193 then gLaw else gML.getD j gM0
def gTgt (pc : Nat) (off : Int) : Option Nat := if 0 ≤ (pc : Int) + off then some ((pc : Int) + off).toNat else none
def gCmp (c : ClassFile.Cond) (x y : Int32) : Bool := match c with
  | .eq => decide (x = y)
  | .ne => decide (¬ x = y)
  | .lt => decide (x < y)
  | .ge => decide (y ≤ x)
  | .gt => decide (y < x)
  | .le => decide (x ≤ y)
def gIsA (v : Value) : Bool := match v with
  | .ref _ => true
  | .null => true
  | _ => false
def gClr (ll : gLl) (i : Nat) : gLl := (ll.set i none).set (i - 1) none
def gLdI (ls : gLs) (i : Nat) : Option Value := match ls[i]? with
  | some (some (.int x)) => some (.int x)
  | _ => none
def gLdA (ls : gLs) (i : Nat) : Option Value := match ls[i]? with
  | some (some (.ref a)) => some (.ref a)
  | some (some .null) => some .null
  | _ => none
def gLdL (ll : gLl) (i : Nat) : Option Value := match ll[i]? with
  | some (some x) => some (.long x)
  | _ => none
/-- a store of one slot -/
def gStI (n pc : Nat) (ls : gLs) (ll : gLl) (i : Nat) (st : List Value) : Option (Nat × gFr) := match st with
  | .int x :: r => if i < ls.length then some (n, pc + n, ls.set i (some (.int x)), gClr ll i, r) else none
  | _ => none
def gStA (n pc : Nat) (ls : gLs) (ll : gLl) (i : Nat) (st : List Value) : Option (Nat × gFr) := match st with
  | v :: r => if i < ls.length ∧ gIsA v = true then some (n, pc + n, ls.set i (some v), gClr ll i, r) else none
  | _ => none
def gStL (n pc : Nat) (ls : gLs) (ll : gLl) (i : Nat) (st : List Value) : Option (Nat × gFr) := match st with
  | .long x :: r => if i + 1 < ls.length then some (n, pc + n, (ls.set i none).set (i + 1) none, ((gClr ll i).set (i + 1) none).set i (some x), r) else none
  | _ => none
def gPush (n pc : Nat) (ls : gLs) (ll : gLl) (v : Option Value) (st : List Value) : Option (Nat × gFr) := v.bind fun v => some (n, pc + n, ls, ll, v :: st)
def gBin (f : Int32 → Int32 → Int32) (pc : Nat) (ls : gLs) (ll : gLl) (st : List Value) : Option (Nat × gFr) := match st with
  | .int y :: .int x :: r => some (1, pc + 1, ls, ll, .int (f x y) :: r)
  | _ => none
def gBin0 (f : Int32 → Int32 → Int32) (pc : Nat) (ls : gLs) (ll : gLl) (st : List Value) : Option (Nat × gFr) := match st with
  | .int y :: .int x :: r => if y = 0 then none else some (1, pc + 1, ls, ll, .int (f x y) :: r)
  | _ => none
def gBinL (f : Int64 → Int64 → Int64) (pc : Nat) (ls : gLs) (ll : gLl) (st : List Value) : Option (Nat × gFr) := match st with
  | .long y :: .long x :: r => some (1, pc + 1, ls, ll, .long (f x y) :: r)
  | _ => none
def gBin0L (f : Int64 → Int64 → Int64) (pc : Nat) (ls : gLs) (ll : gLl) (st : List Value) : Option (Nat × gFr) := match st with
  | .long y :: .long x :: r => if y = 0 then none else some (1, pc + 1, ls, ll, .long (f x y) :: r)
  | _ => none
def gJmp (pc : Nat) (ls : gLs) (ll : gLl) (off : Int) (st : List Value) : Option (Nat × gFr) := (gTgt pc off).bind fun t => some (3, t, ls, ll, st)
/-- what touches no cell: its length, the frame behind it -/
def gPure (i : Instr) (pc : Nat) (ls : gLs) (ll : gLl) (st : List Value) : Option (Nat × gFr) := match i with
  | .aconst_null => some (1, pc + 1, ls, ll, .null :: st)
  | .aload i => gPush 2 pc ls ll (gLdA ls i) st
  | .aload_n k => gPush 1 pc ls ll (gLdA ls k) st
  | .astore i => gStA 2 pc ls ll i st
  | .astore_n k => gStA 1 pc ls ll k st
  | .bipush n => some (2, pc + 2, ls, ll, .int (Int8.ofInt n).toInt32 :: st)
  | .sipush n => some (3, pc + 3, ls, ll, .int (Int16.ofInt n).toInt32 :: st)
  | .iconst n => some (1, pc + 1, ls, ll, .int (Int32.ofInt n) :: st)
  | .lconst n => some (1, pc + 1, ls, ll, .long (Int64.ofNat (n : Nat)) :: st)
  | .dup => match st with
    | v :: r => if v.category = 1 then some (1, pc + 1, ls, ll, v :: v :: r) else none
    | _ => none
  | .dup2 => match st with
    | v :: u :: r => if v.category = 1 ∧ u.category = 1 then some (1, pc + 1, ls, ll, v :: u :: v :: u :: r) else none
    | _ => none
  | .pop => match st with
    | v :: r => if v.category = 1 then some (1, pc + 1, ls, ll, r) else none
    | _ => none
  | .goto off => gJmp pc ls ll off st
  | .iadd => gBin (fun x y => x + y) pc ls ll st
  | .isub => gBin (fun x y => x - y) pc ls ll st
  | .imul => gBin (fun x y => x * y) pc ls ll st
  | .iand => gBin (fun x y => x &&& y) pc ls ll st
  | .ior => gBin (fun x y => x ||| y) pc ls ll st
  | .ixor => gBin (fun x y => x ^^^ y) pc ls ll st
  | .ishl => gBin (fun x y => x <<< (y &&& 31)) pc ls ll st
  | .ishr => gBin (fun x y => x >>> (y &&& 31)) pc ls ll st
  | .iushr => gBin (fun x y => (x.toUInt32 >>> (y.toUInt32 &&& Int32.toUInt32 31)).toInt32) pc ls ll st
  | .idiv => gBin0 (fun x y => x / y) pc ls ll st
  | .irem => gBin0 (fun x y => x - x / y * y) pc ls ll st
  | .ineg => match st with
    | .int x :: r => some (1, pc + 1, ls, ll, .int (-x) :: r)
    | _ => none
  | .ladd => gBinL (fun x y => x + y) pc ls ll st
  | .lmul => gBinL (fun x y => x * y) pc ls ll st
  | .lrem => gBin0L (fun x y => x - x / y * y) pc ls ll st
  | .i2l => match st with
    | .int x :: r => some (1, pc + 1, ls, ll, .long x.toInt64 :: r)
    | _ => none
  | .l2i => match st with
    | .long x :: r => some (1, pc + 1, ls, ll, .int x.toInt32 :: r)
    | _ => none
  | .if_icmp c off => match st with
    | .int y :: .int x :: r => (gTgt pc off).bind fun t => some (3, if gCmp c x y = true then t else pc + 3, ls, ll, r)
    | _ => none
  | .ifCond c off => match st with
    | .int x :: r => (gTgt pc off).bind fun t => some (3, if gCmp c x 0 = true then t else pc + 3, ls, ll, r)
    | _ => none
  | .ifnull off => match st with
    | .ref _ :: r => some (3, pc + 3, ls, ll, r)
    | .null :: r => gJmp pc ls ll off r
    | _ => none
  | .ifnonnull off => match st with
    | .ref _ :: r => gJmp pc ls ll off r
    | .null :: r => some (3, pc + 3, ls, ll, r)
    | _ => none
  | .iinc i n => match ls[i]? with
    | some (some (.int x)) => some (3, pc + 3, ls.set i (some (.int (x + Int32.ofInt n))), gClr ll i, st)
    | _ => none
  | .iload i => gPush 2 pc ls ll (gLdI ls i) st
  | .iload_n k => gPush 1 pc ls ll (gLdI ls k) st
  | .istore i => gStI 2 pc ls ll i st
  | .istore_n k => gStI 1 pc ls ll k st
  | .lload i => gPush 2 pc ls ll (gLdL ll i) st
  | .lload_n k => gPush 1 pc ls ll (gLdL ll k) st
  | .lstore i => gStL 2 pc ls ll i st
  | .lstore_n k => gStL 1 pc ls ll k st
  | _ => none
/-- switches: any length -/
def gSw (i : Instr) (pc : Nat) (ls : gLs) (ll : gLl) (st : List Value) : Option gFr := match i with
  | .tableswitch d lo hi offs => match st with
    | .int x :: r => if x.toInt < lo ∨ hi < x.toInt then (gTgt pc d).bind fun t => some (t, ls, ll, r) else (offs[(x.toInt - lo).toNat]?).bind fun off => (gTgt pc off).bind fun t => some (t, ls, ll, r)
    | _ => none
  | .lookupswitch d ps => match st with
    | .int x :: r => if (ps.toList.zip (ps.toList.drop 1)).all (fun (a, next) => a.1 < next.1) = true then (gTgt pc (Op.lookupswitch.offset ps.toList d x.toInt)).bind fun t => some (t, ls, ll, r) else none
    | _ => none
  | _ => none
def gQ (o : Option Nat) : Value := match o with
  | none => .null
  | some a => .ref a
def gName (j : Nat) : MethodName := (gME j).1
def gCode (j : Nat) : ByteArray := (gME j).2.1
def gMax (j : Nat) : Nat := (gME j).2.2.1
def gRet (j : Nat) : Option FieldType := (gME j).2.2.2.1
def gArg (j : Nat) : Nat := (gME j).2.2.2.2.1
def gSta (j : Nat) : Bool := (gME j).2.2.2.2.2.1
def gOwn (j : Nat) : Nat := (gME j).2.2.2.2.2.2
def gFind (l : List (Nat × Nat × Nat)) (k : Nat) : Option (Nat × Nat) := (l.find? (fun q => q.1 == k)).map (·.2)
def gFind2 (l : List (Nat × Nat)) (k : Nat) : Option Nat := (l.find? (fun q => q.1 == k)).map (·.2)
def gCat (st : List Value) : Nat := (st.map fun v => v.category).sum
/-- behind a call -/
def gBack (pc : Nat) (ls : gLs) (ll : gLl) (rest : List Value) (q : Option gRes) : Option (Nat × ((gFr × gWd) ⊕ gRes)) := q.bind fun q => some (3, .inl ((pc + 3, ls, ll, q.1.toList ++ rest), q.2))
def gNx (n : Nat) (pc : Nat) (ls : gLs) (ll : gLl) (st : List Value) (w : gWd) : Option (Nat × ((gFr × gWd) ⊕ gRes)) := some (n, .inl ((pc + n, ls, ll, st), w))
/-- the calls -/
def gCall (cal : Nat → List Value → gWd → Option gRes) (nat : gNat) (kd t : Nat) (pc : Nat) (ls : gLs) (ll : gLl) (st : List Value) (w : gWd) : Option (Nat × ((gFr × gWd) ⊕ gRes)) := match kd with
  | 0 => match st.drop (gArg t) with
    | .ref b :: rest => match rd w b with
      | some (.inl (ci, _)) => if ci = gOwn t ∧ gCat rest ≤ 8 then gBack pc ls ll rest (cal t (.ref b :: (st.take (gArg t)).reverse) w) else none
      | _ => none
    | _ => none
  | 7 => match st.drop (gArg t) with
    | .ref b :: rest => match rd w b with
      | some (.inl (ci, _)) => if ci = gOwn t ∧ gCat rest ≤ 8 then gBack pc ls ll rest (cal t (.ref b :: (st.take (gArg t)).reverse) w) else none
      | _ => none
    | _ => none
  | 1 => if gArg t ≤ st.length ∧ gCat (st.drop (gArg t)) ≤ 8 then gBack pc ls ll (st.drop (gArg t)) (cal t (st.take (gArg t)).reverse w) else none
  | 2 => if gArg t ≤ st.length ∧ gCat (st.drop (gArg t)) ≤ 8 then gBack pc ls ll (st.drop (gArg t)) (cal t (st.take (gArg t)).reverse w) else none
  | 8 => match st with
    | .int y :: .int x :: rest => if gCat rest ≤ 8 then gNx 3 pc ls ll (.int (if y < x then y else x) :: rest) w else none
    | _ => none
  | 9 => match st with
    | .int y :: .int x :: rest => if gCat rest ≤ 8 then gNx 3 pc ls ll (.int (if x < y then y else x) :: rest) w else none
    | _ => none
  | 10 => match st with
    | .ref b :: rest => if b = gSTR ∧ gCat rest ≤ 8 then (nat.1 10 []).bind fun v => gNx 3 pc ls ll (v :: rest) w else none
    | _ => none
  | 11 => match st with
    | .int x :: .ref b :: rest => if b = gSTR ∧ gCat rest ≤ 8 then (nat.1 11 [.int x]).bind fun v => gNx 3 pc ls ll (v :: rest) w else none
    | _ => none
  | _ => none
def gInit (cal : Nat → List Value → gWd → Option gRes) (nat : gNat) (kd t : Nat) (pc : Nat) (ls : gLs) (ll : gLl) (st : List Value) (w : gWd) : Option (Nat × ((gFr × gWd) ⊕ gRes)) := match kd with
  | 3 => match st.drop (gArg t) with
    | .ref b :: rest => if gCat rest ≤ 8 then gBack pc ls ll rest (cal t (.ref b :: (st.take (gArg t)).reverse) w) else none
    | _ => none
  | 4 => match st.drop (gArg t) with
    | .ref b :: rest => if gCat rest ≤ 8 then gBack pc ls ll rest (cal t (.ref b :: (st.take (gArg t)).reverse) w) else none
    | _ => none
  | 5 => match st.drop (gArg t) with
    | .ref b :: rest => if gCat rest ≤ 8 then (nat.2 t (.ref b :: (st.take (gArg t)).reverse) w).bind fun u => if w.2.1 ≤ u.2.2.1 ∧ w.2.2 ≤ u.2.2.2 then gBack pc ls ll rest (some u) else none else none
    | _ => none
  | 6 => match st with
    | .ref _ :: rest => if gCat rest ≤ 8 then gNx 3 pc ls ll rest w else none
    | _ => none
  | _ => none
/-- what touches cells: its length, the state behind it or the answer -/
def gHeap (cal : Nat → List Value → gWd → Option gRes) (nat : gNat) (j : Nat) (i : Instr) (pc : Nat) (ls : gLs) (ll : gLl) (st : List Value) (w : gWd) : Option (Nat × ((gFr × gWd) ⊕ gRes)) := match i with
  | .getfield ix => match gFind (gFS (gOwn j)) ix with
    | some (ci, k) => match st with
      | .ref a :: r => match rd w a with
        | some (.inl (c, fs)) => if c = ci then (fs[k]?).bind fun v => gNx 3 pc ls ll (v :: r) w else none
        | _ => none
      | _ => none
    | _ => none
  | .putfield ix => match gFind (gFS (gOwn j)) ix with
    | some (ci, k) => match st with
      | v :: .ref a :: r => match rd w a with
        | some (.inl (c, fs)) => if c = ci ∧ k < fs.length ∧ narrow (gTy ci k) v = v ∧ fits (gTy ci k) v = true ∧ ((gT ci k).2.2.2 = true → (gName j).name = "<init>" ∧ gOwn j = ci) then gNx 3 pc ls ll r (wr w a (oC ci (fs.set k v))) else none
        | _ => none
      | _ => none
    | _ => none
  | .arraylength => match st with
    | .ref a :: r => match rd w a with
      | some (.inr (n, _)) => gNx 1 pc ls ll (.int (Int32.ofNat n) :: r) w
      | none => if a = gSCR then (nat.1 14 []).bind fun v => gNx 1 pc ls ll (v :: r) w else none
      | _ => none
    | _ => none
  | .iaload => match st with
    | .int i :: .ref a :: r => match rd w a with
      | some (.inr (n, .inl f)) => if i < 0 ∨ n ≤ i.toNatClampNeg then none else gNx 1 pc ls ll (.int (f i.toNatClampNeg) :: r) w
      | none => if a = gSCR then (nat.1 13 [.int i]).bind fun v => gNx 1 pc ls ll (v :: r) w else none
      | _ => none
    | _ => none
  | .aaload => match st with
    | .int i :: .ref a :: r => match rd w a with
      | some (.inr (n, .inr f)) => if i < 0 ∨ n ≤ i.toNatClampNeg then none else gNx 1 pc ls ll (gQ (f i.toNatClampNeg) :: r) w
      | _ => none
    | _ => none
  | .iastore => match st with
    | .int x :: .int i :: .ref a :: r => match rd w a with
      | some (.inr (n, .inl f)) => if i < 0 ∨ n ≤ i.toNatClampNeg then none else gNx 1 pc ls ll r (wr w a (iC n (upd f i.toNatClampNeg x)))
      | _ => none
    | _ => none
  | .aastore => match st with
    | .ref v :: .int i :: .ref a :: r => match rd w a with
      | some (.inr (n, .inr f)) => match rd w v with
        | some (.inl (c, _)) => if c = 7 then (if i < 0 ∨ n ≤ i.toNatClampNeg then none else gNx 1 pc ls ll r (wr w a (rC n (va_up f i.toNatClampNeg (some v))))) else none
        | _ => none
      | _ => none
    | _ => none
  | .new ix => match gFind2 (gNS (gOwn j)) ix with
    | some ci => if gSTR ≤ w.2.1 then none else gNx 3 pc ls ll (.ref w.2.1 :: st) (al w (oC ci ((List.range (gN ci)).map fun k => defaultValue (gTy ci k))) (gN ci))
    | _ => none
  | .newarray .int => match st with
    | .int n :: r => if n < 0 ∨ 536870912 < n.toNatClampNeg * 4 ∨ gSTR ≤ w.2.1 then none else gNx 2 pc ls ll (.ref w.2.1 :: r) (al w (iC n.toNatClampNeg (fun _ => 0)) n.toNatClampNeg)
    | _ => none
  | .anewarray ix => match gFind2 (gNS (gOwn j)) ix with
    | some 7 => match st with
      | .int n :: r => if n < 0 ∨ 536870912 < n.toNatClampNeg * 4 ∨ gSTR ≤ w.2.1 then none else gNx 3 pc ls ll (.ref w.2.1 :: r) (al w (rC n.toNatClampNeg (fun _ => none)) n.toNatClampNeg)
      | _ => none
    | _ => none
  | .ldc ix => match (gKS.find? (fun q => q.1 == (gOwn j, ix))) with
    | some q => gNx 2 pc ls ll (.int q.2 :: st) w
    | none => if gOwn j = 8 ∧ ix = 84 then (nat.1 12 []).bind fun v => gNx 2 pc ls ll (v :: st) w else none
  | .ldc_w ix => match (gKS.find? (fun q => q.1 == (gOwn j, ix))) with
    | some q => gNx 3 pc ls ll (.int q.2 :: st) w
    | none => none
  | .ldc2_w ix => match (gKL.find? (fun q => q.1 == (gOwn j, ix))) with
    | some q => gNx 3 pc ls ll (.long q.2 :: st) w
    | none => none
  | .invokevirtual ix => match gFind (gCS (gOwn j)) ix with
    | some (kd, t) => if kd = 0 ∨ kd = 7 ∨ kd = 10 ∨ kd = 11 then gCall cal nat kd t pc ls ll st w else none
    | _ => none
  | .invokestatic ix => match gFind (gCS (gOwn j)) ix with
    | some (kd, t) => if kd = 1 ∨ kd = 2 ∨ kd = 8 ∨ kd = 9 then gCall cal nat kd t pc ls ll st w else none
    | _ => none
  | .invokespecial ix => match gFind (gCS (gOwn j)) ix with
    | some (kd, t) => gInit cal nat kd t pc ls ll st w
    | _ => none
  | .ireturn => match st with
    | [.int v] => match gRet j with
      | some ty => if narrow ty (.int v) = .int v then some (1, .inr (some (.int v), w)) else none
      | none => none
    | _ => none
  | .areturn => match st with
    | [v] => match gRet j with
      | some (.object _) => if gIsA v = true then some (1, .inr (some v, w)) else none
      | _ => none
    | _ => none
  | .return_ => match st with
    | [] => if gRet j = none then some (1, .inr (none, w)) else none
    | _ => none
  | _ => none
def gStep (cal : Nat → List Value → gWd → Option gRes) (nat : gNat) (j : Nat) (f : gFr) (w : gWd) : Option ((gFr × gWd) ⊕ gRes) := match decode (gCode j) f.1 with
  | .ok (i, len) => match gPure i f.1 f.2.1 f.2.2.1 f.2.2.2 with
    | some (n, f') => if n = len then some (.inl (f', w)) else none
    | none => match gSw i f.1 f.2.1 f.2.2.1 f.2.2.2 with
      | some f' => some (.inl (f', w))
      | none => match gHeap cal nat j i f.1 f.2.1 f.2.2.1 f.2.2.2 w with
        | some (n, o) => if n = len then some o else none
        | none => none
  | _ => none
/-- so many steps -/
def gRun (cal : Nat → List Value → gWd → Option gRes) (nat : gNat) (j : Nat) : Nat → gFr → gWd → Option gRes
  | 0, _, _ => none
  | k + 1, f, w => match gStep cal nat j f w with
    | none => none
    | some (.inr r) => some r
    | some (.inl q) => gRun cal nat j k q.1 q.2
theorem gRun_mono {cal : Nat → List Value → gWd → Option gRes} {nat : gNat} {j : Nat} : ∀ (k m : Nat) (f : gFr) (w : gWd) (r : gRes), gRun cal nat j k f w = some r → gRun cal nat j (k + m) f w = some r := by
  intro k
  induction k with
  | zero => intro m f w r h; cases h
  | succ k ih =>
    intro m f w r h
    rw [show k + 1 + m = (k + m) + 1 by omega]
    unfold gRun at h ⊢
    cases hs : gStep cal nat j f w with
    | none => rw [hs] at h; cases h
    | some o =>
      rw [hs] at h
      cases o with
      | inr x => exact h
      | inl q => exact ih m q.1 q.2 r h
theorem gRun_one {cal : Nat → List Value → gWd → Option gRes} {nat : gNat} {j k m : Nat} {f : gFr} {w : gWd} {r r' : gRes} (h : gRun cal nat j k f w = some r) (h' : gRun cal nat j m f w = some r') : r = r' := by
  have a := gRun_mono k m f w r h
  have b := gRun_mono m k f w r' h'
  rw [Nat.add_comm m k] at b
  exact Option.some.inj (a.symm.trans b)
/-- to the end: no number of steps is named -/
noncomputable def gL (cal : Nat → List Value → gWd → Option gRes) (nat : gNat) (j : Nat) (f : gFr) (w : gWd) : Option gRes :=
  letI := Classical.propDecidable (∃ (r : gRes) (k : Nat), gRun cal nat j k f w = some r)
  if h : ∃ (r : gRes) (k : Nat), gRun cal nat j k f w = some r then some (Classical.choose h) else none
theorem gL_iff {cal : Nat → List Value → gWd → Option gRes} {nat : gNat} {j : Nat} {f : gFr} {w : gWd} {r : gRes} : gL cal nat j f w = some r ↔ ∃ k, gRun cal nat j k f w = some r := by
  unfold gL
  by_cases h : ∃ (r : gRes) (k : Nat), gRun cal nat j k f w = some r
  · rw [dif_pos h]
    have hc := Classical.choose_spec h
    constructor
    · intro e
      cases e
      exact hc
    · rintro ⟨k, hk⟩
      obtain ⟨m, hm⟩ := hc
      rw [gRun_one hm hk]
  · rw [dif_neg h]
    constructor
    · intro e; cases e
    · rintro ⟨k, hk⟩
      exact absurd ⟨r, k, hk⟩ h
theorem gL_none {cal : Nat → List Value → gWd → Option gRes} {nat : gNat} {j : Nat} {f : gFr} {w : gWd} (h : ∀ k, gRun cal nat j k f w = none) : gL cal nat j f w = none := by
  cases e : gL cal nat j f w with
  | none => rfl
  | some r =>
    obtain ⟨k, hk⟩ := gL_iff.mp e
    rw [h k] at hk
    cases hk
/-- one step -/
theorem gL_step {cal : Nat → List Value → gWd → Option gRes} {nat : gNat} {j : Nat} {f : gFr} {w : gWd} {f' : gFr} {w' : gWd} (h : gStep cal nat j f w = some (.inl (f', w'))) : gL cal nat j f w = gL cal nat j f' w' := by
  have key : ∀ r, gL cal nat j f w = some r ↔ gL cal nat j f' w' = some r := by
    intro r
    rw [gL_iff, gL_iff]
    constructor
    · rintro ⟨k, hk⟩
      cases k with
      | zero => cases hk
      | succ k =>
        unfold gRun at hk
        rw [h] at hk
        exact ⟨k, hk⟩
    · rintro ⟨k, hk⟩
      refine ⟨k + 1, ?_⟩
      unfold gRun
      rw [h]
      exact hk
  cases e : gL cal nat j f' w' with
  | some r => exact (key r).mpr e
  | none =>
    cases e2 : gL cal nat j f w with
    | none => rfl
    | some r => rw [(key r).mp e2] at e; cases e
theorem gL_end {cal : Nat → List Value → gWd → Option gRes} {nat : gNat} {j : Nat} {f : gFr} {w : gWd} {r : gRes} (h : gStep cal nat j f w = some (.inr r)) : gL cal nat j f w = some r :=
  gL_iff.mpr ⟨1, by unfold gRun; rw [h]⟩
theorem gL_bad {cal : Nat → List Value → gWd → Option gRes} {nat : gNat} {j : Nat} {f : gFr} {w : gWd} (h : gStep cal nat j f w = none) : gL cal nat j f w = none :=
  gL_none fun k => by
    cases k with
    | zero => rfl
    | succ k => unfold gRun; rw [h]
/-- methods that hold long numbers in their locals -/
def gLong (j : Nat) : Bool := j == 110 || j == 187
/-- a frame at a method's start -/
def gIn (j : Nat) (as : List Value) : gFr := (0, as.map some ++ List.replicate (gMax j - as.length) none, if gLong j = true then List.replicate (gMax j) none else [], [])
/-- a method, to the depth d -/
noncomputable def gC (nat : gNat) : Nat → Nat → List Value → gWd → Option gRes
  | 0 => fun _ _ _ => none
  | d + 1 => fun j as w => if j < 193 ∧ as.length = gArg j + (if gSta j = true then 0 else 1) ∧ as.length ≤ gMax j ∧ (∀ v ∈ as, v.category = 1) then gL (gC nat d) nat j (gIn j as) w else none
