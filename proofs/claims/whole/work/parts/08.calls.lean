/-! calls; a whole step; a whole method; every depth -/
theorem gPre_blind {D : va_G} {cI cR : ClassId} {ad : Nat → Nat} {w : gWd} {sz : Nat} {as : List Value} : FrameBlind (va_Pc as (gPreB D cI cR ad w sz)) := fun a U g mk q => by
  obtain ⟨q0, q1, qP, qK, qD⟩ := q
  exact ⟨q0, q1, qP, gE.same (s := U) (U := U.calling g mk a) qK rfl, qD⟩
theorem gA_in {D : va_G} {cI cR : ClassId} {ad : Nat → Nat} {A : Nat → Prop} {s : State} {w : gWd} {H : Heap} {locs : List Loc} {cells slots n0 s0 : Nat} (I : gInv D cI cR ad A s w H locs cells slots n0 s0) (hA : ∀ q : Nat, s.heap.size ≤ q → A q) : ∀ q : Nat, va_A (gws cI cR ad w) H.size q → A q := by
  intro q h
  obtain ⟨h1, h2, h3, h4, h5, h6, h7⟩ := I
  rcases h with ⟨k, e, h⟩ | h
  · exact h3.2 k (q, e) h
  · exact hA q (Nat.le_trans h4.1 h)
section GC
variable {p : Program} {l : Launch} {e : Env} {R : Room} {s : State} {m : MethodId} {args : Array Value} {below : List Frame} {meth : Method} {c : Code} {H : Heap} {locs : List Loc} {cells slots : Nat} {Q : State → Prop}
variable {D : va_G} {cI cR : ClassId} {ad : Nat → Nat} {A : Nat → Prop} {n0 s0 j : Nat} {w : gWd} {pc n : Nat} {lsA : Array Slot} {ls : gLs} {ll : gLl} {st : List Value}
variable {d t : Nat} {q q0 : gRes} {as : List Value}
theorem gGo {mc ms : Nat} {st0 rest a0 : List Value} (hr : va_Run p l e R s m args below meth c H locs cells slots mc ms (F0 m pc lsA st0) (rest.map (gv ad)) (gPost D cI cR ad q (va_A (gws cI cR ad w) H.size) a0.toArray) (va_A (gws cI cR ad w) H.size)) (hA : ∀ q : Nat, s.heap.size ≤ q → A q) (I : gInv D cI cR ad A s w H locs cells slots n0 s0) (hs : gHas ad lsA (gMax j) ls ll) (hmc : mc = q.2.2.1 - w.2.1) (hms : ms = q.2.2.2 - w.2.2) (hle : gLe w q.2) (kk : gKH p l e R s m args below meth c Q D cI cR ad A n0 s0 j (pc + 3, ls, ll, q.1.toList ++ rest) q.2) : W p l e R s m args below meth c H locs cells slots Q (F0 m pc lsA st0) := by
  have hin := gA_in I hA
  obtain ⟨h1, h2, h3, h4, h5, h6, h7⟩ := id I
  intro T hT X
  obtain ⟨v, st₀, t1, T', L, h0, X', hL, e1, e2, ⟨hv, qP, qD, qF, qO, qS⟩, stp⟩ := hr T hT X
  cases hv
  obtain ⟨hz, hk⟩ := qS
  rw [h0] at hz hk
  have hS' : va_S A s.heap T'.heap (locs ++ L) := ⟨Nat.le_trans h4.1 (by rw [e1]; exact hz), fun x g1 g2 => by rw [e1, hk x (Nat.lt_of_lt_of_le g1 h4.1) (fun z => g2 (hin x z))]; exact h4.2.1 x g1 g2, fun x hx => by
    rcases List.mem_append.mp hx with h | h
    · exact h4.2.2 x h
    · exact hin _ (hL x h)⟩
  have I' : gInv D cI cR ad A s q.2 T'.heap (locs ++ L) (cells + mc) (slots + ms) n0 s0 := by
    refine ⟨qO, by rw [e1]; exact qP, qD.weaken (fun k x _ hx => hin _ hx), hS', by rw [e1]; exact qF, ?_, ?_⟩
    · have := hle.1
      omega
    · have := hle.2
      omega
  have k1 := kk lsA T'.heap (locs ++ L) (cells + mc) (slots + ms) hs I'
  obtain ⟨t2, a1, b1⟩ := k1 T' rfl X'
  refine ⟨t2, stp t2 ?_, b1⟩
  have e3 : (q.1.map (gv ad)).toList ++ rest.map (gv ad) = (q.1.toList ++ rest).map (gv ad) := by
    rw [List.map_append]
    cases q.1 <;> rfl
  rw [e3]
  exact a1
/-- what a call needs of its callee -/
def gCal (l : Launch) (D : va_G) (cI cR : ClassId) (d : Nat) (cal : Nat → List Value → gWd → Option gRes) : Prop := ∀ (t : Nat) (as : List Value) (w : gWd) (q : gRes), cal t as w = some q → t < 193 ∧ as.length = gArg t + (if gSta t = true then 0 else 1) ∧ gMet l D cI cR d t as w q ∧ gLe w q.2
/-- the room that a method at the depth d + 1 needs -/
def gRoomR (R : Room) (d : Nat) (q0 : gRes) (n0 s0 : Nat) : Prop := d + 1 ≤ R.frames ∧ 100 * (d + 1) ≤ R.locals ∧ q0.2.2.1 - n0 ≤ R.cells ∧ q0.2.2.2 - s0 ≤ R.slots
theorem gRoomOk (hR : gRoomR R d q0 n0 s0) (h : t < 193) : (gRm d (q.2.2.1 - w.2.1) (q.2.2.2 - w.2.2)).frames + 1 ≤ R.frames ∧ 8 + (gMax t + 11) + (gRm d (q.2.2.1 - w.2.1) (q.2.2.2 - w.2.2)).locals ≤ R.locals := by
  have h60 : gMax t ≤ 60 := (gMok_at h).2.2.2.2.2.1
  obtain ⟨r1, r2, r3, r4⟩ := hR
  refine ⟨r1, ?_⟩
  show 8 + (gMax t + 11) + 100 * d ≤ R.locals
  omega
theorem gFits (hR : gRoomR R d q0 n0 s0) (I : gInv D cI cR ad A s w H locs cells slots n0 s0) (hle : gLe w q.2) (hle0 : gLe q.2 q0.2) : cells + (q.2.2.1 - w.2.1) ≤ R.cells ∧ slots + (q.2.2.2 - w.2.2) ≤ R.slots := by
  obtain ⟨h1, h2, h3, h4, h5, h6, h7⟩ := I
  have a1 := hle.1
  have a2 := hle.2
  have a3 := hle0.1
  have a4 := hle0.2
  obtain ⟨r1, r2, r3, r4⟩ := hR
  omega
theorem gPreV (C : gCtx p s m args meth c D cI cR j A) (I : gInv D cI cR ad A s w H locs cells slots n0 s0) : PreS s H (va_Pc (as.map (gv ad)) (gPreB D cI cR ad w H.size)) (as.map (gv ad)) := by
  obtain ⟨hx, hb, hml, hr, hlk, hnm, hown, hts, hE, hA⟩ := C
  obtain ⟨h1, h2, h3, h4, h5, h6, h7⟩ := I
  exact ⟨gPre_blind, fun U hU hW => ⟨rfl, by rw [hU], by rw [hU]; exact h2, hE.warm hW, h3.weaken (fun _ _ _ _ => trivial)⟩⟩
theorem gSplit {k : Nat} {b : Value} {rest : List Value} (h : st.drop k = b :: rest) : st = (st.take k) ++ b :: rest ∧ (st.take k).length = k := by
  refine ⟨by rw [← h, List.take_append_drop], ?_⟩
  have h2 : (st.drop k).length = rest.length + 1 := by rw [h]; rfl
  rw [List.length_drop] at h2
  rw [List.length_take]
  omega
theorem gFixC (C : gCtx p s m args meth c D cI cR j A) : CallFix p m c (gCode j) (gMax j) s args gTB (gR (gOwn j)) := by
  obtain ⟨hx, hb, hml, hr, hlk, hnm, hown, hts, hE, hA⟩ := C
  exact ⟨hx, hb, hml, hown, hts⟩
theorem gCatOk {rest : List Value} (h : gCat rest ≤ 8) : 2 * (F0 m pc lsA (st.map (gv ad))).monitorRoom + ((rest.map (gv ad)).map fun v => v.category).sum ≤ 8 := by
  rw [gv_cats]
  show 2 * 0 + gCat rest ≤ 8
  omega
theorem gNestGood {own : String} {ix : Nat} {y : MethodName} {h : String} (hE : gE D cI cR s) (hw : Cond.methodLinkNest own ix y h ∈ gNW) : va_Nw (.methodLinkNest own ix y h) s := hE.2.1 _ hw
/-- a call of an object's method -/
theorem gVirt_ok (hR : gRoomR R d q0 n0 s0) {cal : Nat → List Value → gWd → Option gRes} (hcal : gCal l D cI cR d cal) (C : gCtx p s m args meth c D cI cR j A) (I : gInv D cI cR ad A s w H locs cells slots n0 s0) (hs : gHas ad lsA (gMax j) ls ll) {ix kd ci b : Nat} {fs rest : List Value} (hf : gFind (gCS (gOwn j)) ix = some (kd, t)) (hkd : kd = 0 ∨ kd = 7) (hst : st.drop (gArg t) = .ref b :: rest) (hw : rd w b = some (.inl (ci, fs))) (hci : ci = gOwn t) (hcat : gCat rest ≤ 8) (hq : cal t (.ref b :: (st.take (gArg t)).reverse) w = some q) (hle0 : gLe q.2 q0.2) (hd : decode (gCode j) pc = .ok (.invokevirtual ix, 3))
    (kk : gKH p l e R s m args below meth c Q D cI cR ad A n0 s0 j (pc + 3, ls, ll, q.1.toList ++ rest) q.2) : W p l e R s m args below meth c H locs cells slots Q (F0 m pc lsA (st.map (gv ad))) := by
  obtain ⟨h193, hlen, hM, hle⟩ := hcal _ _ _ _ hq
  obtain ⟨m1, m2, m3, m4, m5, m6, m7, m8⟩ := gMok_at h193
  have hok := gCok_all _ _ (gFind_mem hf)
  unfold gCok at hok
  dsimp only at hok
  rw [← gME_at h193] at hok
  obtain ⟨h1, h2, h3, h4, h5, h6, h7⟩ := id I
  have hM1 := hM ad H.size h5 h1
  have hF := gFits hR I hle hle0
  have hPS := gPreV (as := .ref b :: (st.take (gArg t)).reverse) C I
  obtain ⟨e1, e2⟩ := gSplit hst
  have hA := C.2.2.2.2.2.2.2.2.2
  have hE := C.2.2.2.2.2.2.2.2.1
  have hts := C.2.2.2.2.2.2.2.1
  have hb' : w.1 b = some (.inl (ci, fs)) := hw
  have hat := gws_at (cI := cI) (cR := cR) (ad := ad) (gOK_lt h1 hb')
  rw [hb'] at hat
  have hlt : gOwn t < 10 := by
    rw [← hci]
    obtain ⟨r', hr', -⟩ := h2 b _ hat
    exact (List.getElem?_eq_some_iff.mp hr').1
  obtain ⟨g1, g2, g3, g4, g5, g6⟩ := gKok_all _ hlt
  have hrecv := va_recv hE.1 h2 (ci := ci) (q0 := b) (by rw [hci]; exact g5) hat
  have m5 : (gName t).cls = gR (gOwn t) := m5
  have hst2 : (st.map (gv ad)) = (((st.take (gArg t)).reverse).map (gv ad)).reverse ++ .ref (ad b) :: rest.map (gv ad) := by
    conv => lhs; rw [e1]
    rw [List.map_append, List.map_reverse, List.reverse_reverse]
    rfl
  have hgood : ∀ w ∈ gWs t, w ∈ gTB := gWs_in h193
  have hn : (((st.take (gArg t)).reverse).map (gv ad)).length = gArg t := by rw [List.length_map, List.length_reverse]; exact e2
  have hcat' := gCatOk (m := m) (pc := pc) (lsA := lsA) (st := st) (ad := ad) hcat
  rcases hkd with rfl | rfl
  · obtain ⟨l1, l2, l3⟩ := hok
    have hsel := m8 l2 l3
    rw [if_neg (by rw [l2]; decide)] at m7
    refine gGo (mc := q.2.2.1 - w.2.1) (ms := q.2.2.2 - w.2.2) (a0 := (Value.ref b :: (st.take (gArg t)).reverse).map (gv ad)) (va_runV (C := gR (gOwn t)) (b := ad b) (As := ((st.take (gArg t)).reverse).map (gv ad)) (rest := rest.map (gv ad)) (n := gArg t) (gFixC C) hM1 (cwV (gArg t) hts (gGood ?_) rfl rfl rfl ⟨m5, m3⟩ (gRoomOk hR h193)) ⟨hPS.1, hrecv, hPS.2⟩ rfl hn hs.1 hst2 hcat' hd hF) hA I hs rfl rfl hle kk
    intro x hx
    rcases List.mem_append.mp hx with hx | hx
    · simp only [List.mem_cons, List.not_mem_nil, or_false] at hx
      rcases hx with rfl | rfl | rfl | rfl
      · exact l1
      · exact m7
      · rw [← m5]; exact hsel
      · rw [← m5]; exact m2
    · exact hgood x hx
  · obtain ⟨l1, l2, l3⟩ := hok
    have hsel := m8 l2 l3
    rw [if_neg (by rw [l2]; decide)] at m7
    refine gGo (mc := q.2.2.1 - w.2.1) (ms := q.2.2.2 - w.2.2) (a0 := (Value.ref b :: (st.take (gArg t)).reverse).map (gv ad)) (va_runVN (C := gR (gOwn t)) (host := "SeamMere") (b := ad b) (As := ((st.take (gArg t)).reverse).map (gv ad)) (rest := rest.map (gv ad)) (n := gArg t) (gFixC C) hM1 ⟨va_cnB (gArg t) hts (gGood hgood) rfl rfl rfl (gNestGood hE l1) (hts _ m2) m3 (gRoomOk hR h193), hts _ m7, hts _ (by rw [← m5]; exact hsel)⟩ ⟨hPS.1, hrecv, hPS.2⟩ rfl hn hs.1 hst2 hcat' hd hF) hA I hs rfl rfl hle kk
/-- .. of a static one -/
theorem gStat_ok (hR : gRoomR R d q0 n0 s0) {cal : Nat → List Value → gWd → Option gRes} (hcal : gCal l D cI cR d cal) (C : gCtx p s m args meth c D cI cR j A) (I : gInv D cI cR ad A s w H locs cells slots n0 s0) (hs : gHas ad lsA (gMax j) ls ll) {ix kd : Nat} (hf : gFind (gCS (gOwn j)) ix = some (kd, t)) (hkd : kd = 1 ∨ kd = 2) (hst : gArg t ≤ st.length) (hcat : gCat (st.drop (gArg t)) ≤ 8) (hq : cal t (st.take (gArg t)).reverse w = some q) (hle0 : gLe q.2 q0.2) (hd : decode (gCode j) pc = .ok (.invokestatic ix, 3))
    (kk : gKH p l e R s m args below meth c Q D cI cR ad A n0 s0 j (pc + 3, ls, ll, q.1.toList ++ st.drop (gArg t)) q.2) : W p l e R s m args below meth c H locs cells slots Q (F0 m pc lsA (st.map (gv ad))) := by
  obtain ⟨h193, hlen, hM, hle⟩ := hcal _ _ _ _ hq
  obtain ⟨m1, m2, m3, m4, m5, m6, m7, m8⟩ := gMok_at h193
  have hok := gCok_all _ _ (gFind_mem hf)
  unfold gCok at hok
  dsimp only at hok
  rw [← gME_at h193] at hok
  obtain ⟨h1, h2, h3, h4, h5, h6, h7⟩ := id I
  have hM1 := hM ad H.size h5 h1
  have hF := gFits hR I hle hle0
  have hPS := gPreV (as := (st.take (gArg t)).reverse) C I
  have hA := C.2.2.2.2.2.2.2.2.2
  have hE := C.2.2.2.2.2.2.2.2.1
  have hts := C.2.2.2.2.2.2.2.1
  have hst2 : (st.map (gv ad)) = (((st.take (gArg t)).reverse).map (gv ad)).reverse ++ (st.drop (gArg t)).map (gv ad) := by
    rw [List.map_reverse, List.reverse_reverse, ← List.map_append, List.take_append_drop]
  have hgood : ∀ w ∈ gWs t, w ∈ gTB := gWs_in h193
  have hn : (((st.take (gArg t)).reverse).map (gv ad)).length = gArg t := by rw [List.length_map, List.length_reverse, List.length_take]; omega
  have hcat' := gCatOk (m := m) (pc := pc) (lsA := lsA) (st := st) (ad := ad) hcat
  rcases hkd with rfl | rfl
  · obtain ⟨l1, l2⟩ := hok
    rw [if_pos l2] at m7
    refine gGo (mc := q.2.2.1 - w.2.1) (ms := q.2.2.2 - w.2.2) (a0 := ((st.take (gArg t)).reverse).map (gv ad)) (va_runS (As := ((st.take (gArg t)).reverse).map (gv ad)) (rest := (st.drop (gArg t)).map (gv ad)) (n := gArg t) (gFixC C) hM1 (va_cwS (gArg t) hts (gGood ?_) rfl rfl rfl m3 (gRoomOk hR h193)) hPS rfl hn hs.1 hst2 hcat' hd hF) hA I hs rfl rfl hle kk
    intro x hx
    rcases List.mem_append.mp hx with hx | hx
    · simp only [List.mem_cons, List.not_mem_nil, or_false] at hx
      rcases hx with rfl | rfl | rfl
      · exact l1
      · exact m7
      · exact m2
    · exact hgood x hx
  · obtain ⟨l1, l2⟩ := hok
    rw [if_pos l2] at m7
    exact gGo (mc := q.2.2.1 - w.2.1) (ms := q.2.2.2 - w.2.2) (a0 := ((st.take (gArg t)).reverse).map (gv ad)) (va_runSN (host := "SeamMere") (As := ((st.take (gArg t)).reverse).map (gv ad)) (rest := (st.drop (gArg t)).map (gv ad)) (n := gArg t) (gFixC C) hM1 ⟨va_cnB (gArg t) hts (gGood hgood) rfl rfl rfl (gNestGood hE l1) (hts _ m2) m3 (gRoomOk hR h193), hts _ m7, trivial⟩ hPS rfl hn hs.1 hst2 hcat' hd hF) hA I hs rfl rfl hle kk
/-- .. of a constructor -/
theorem gCtor_ok (hR : gRoomR R d q0 n0 s0) {cal : Nat → List Value → gWd → Option gRes} (hcal : gCal l D cI cR d cal) (C : gCtx p s m args meth c D cI cR j A) (I : gInv D cI cR ad A s w H locs cells slots n0 s0) (hs : gHas ad lsA (gMax j) ls ll) {ix kd b : Nat} {rest : List Value} (hf : gFind (gCS (gOwn j)) ix = some (kd, t)) (hkd : kd = 3 ∨ kd = 4) (hst : st.drop (gArg t) = .ref b :: rest) (hcat : gCat rest ≤ 8) (hq : cal t (.ref b :: (st.take (gArg t)).reverse) w = some q) (hle0 : gLe q.2 q0.2) (hd : decode (gCode j) pc = .ok (.invokespecial ix, 3))
    (kk : gKH p l e R s m args below meth c Q D cI cR ad A n0 s0 j (pc + 3, ls, ll, q.1.toList ++ rest) q.2) : W p l e R s m args below meth c H locs cells slots Q (F0 m pc lsA (st.map (gv ad))) := by
  obtain ⟨h193, hlen, hM, hle⟩ := hcal _ _ _ _ hq
  obtain ⟨m1, m2, m3, m4, m5, m6, m7, m8⟩ := gMok_at h193
  have hok := gCok_all _ _ (gFind_mem hf)
  unfold gCok at hok
  dsimp only at hok
  rw [← gME_at h193] at hok
  obtain ⟨h1, h2, h3, h4, h5, h6, h7⟩ := id I
  have hM1 := hM ad H.size h5 h1
  have hF := gFits hR I hle hle0
  have hPS := gPreV (as := .ref b :: (st.take (gArg t)).reverse) C I
  obtain ⟨e1, e2⟩ := gSplit hst
  have hA := C.2.2.2.2.2.2.2.2.2
  have hE := C.2.2.2.2.2.2.2.2.1
  have hts := C.2.2.2.2.2.2.2.1
  have hst2 : (st.map (gv ad)) = (((st.take (gArg t)).reverse).map (gv ad)).reverse ++ .ref (ad b) :: rest.map (gv ad) := by
    conv => lhs; rw [e1]
    rw [List.map_append, List.map_reverse, List.reverse_reverse]
    rfl
  have hgood : ∀ w ∈ gWs t, w ∈ gTB := gWs_in h193
  have hn : (((st.take (gArg t)).reverse).map (gv ad)).length = gArg t := by rw [List.length_map, List.length_reverse]; exact e2
  have hcat' := gCatOk (m := m) (pc := pc) (lsA := lsA) (st := st) (ad := ad) hcat
  have hwsN : ∀ (hret : gRet t = none), gWs t = Cond.code (gName t) (gCode t) (gMax t) none :: gTB := fun hret => by unfold gWs; rw [hret]
  rcases hkd with rfl | rfl
  · obtain ⟨l1, l2, l3, l4⟩ := hok
    rw [if_neg (by rw [l2]; decide)] at m7
    exact gGo (mc := q.2.2.1 - w.2.1) (ms := q.2.2.2 - w.2.2) (a0 := (Value.ref b :: (st.take (gArg t)).reverse).map (gv ad)) (va_runI (b := ad b) (As := ((st.take (gArg t)).reverse).map (gv ad)) (rest := rest.map (gv ad)) (n := gArg t) (gFixC C) hM1 (cwI (gArg t) hts (gGood hgood) (hwsN l4) rfl rfl (hts _ m2) (hts _ l1) (hts _ m7) l3 m3 (gRoomOk hR h193)) hPS rfl hn hs.1 hst2 hcat' hd hF) hA I hs rfl rfl hle kk
  · obtain ⟨l1, l2, l3, l4⟩ := hok
    rw [if_neg (by rw [l2]; decide)] at m7
    exact gGo (mc := q.2.2.1 - w.2.1) (ms := q.2.2.2 - w.2.2) (a0 := (Value.ref b :: (st.take (gArg t)).reverse).map (gv ad)) (va_runIN (host := "SeamMere") (b := ad b) (As := ((st.take (gArg t)).reverse).map (gv ad)) (rest := rest.map (gv ad)) (n := gArg t) (gFixC C) hM1 ⟨va_cnB (gArg t) hts (gGood hgood) (hwsN l4) rfl rfl (gNestGood hE l1) (hts _ m2) m3 (gRoomOk hR h193), l3, hts _ m7⟩ hPS rfl hn hs.1 hst2 hcat' hd hF) hA I hs rfl rfl hle kk
end GC
