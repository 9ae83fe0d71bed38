/-! the law's body, given the class's constructor -/
def cln (w : gWd) : gWd := (fun k => if k < w.2.1 then w.1 k else none, w.2)
theorem cln_eq {w : gWd} (h : gOK w) : cln w = w := by
  obtain ⟨f, n⟩ := w
  unfold cln
  congr 1
  funext k
  by_cases hk : k < n.1
  · exact if_pos hk
  · show (if k < n.1 then f k else none) = f k
    rw [if_neg hk]
    exact (Classical.not_not.mp (fun hz => hk ((h k).mp hz))).symm
noncomputable def natL (L : Nat) (xs : Nat → Int32) (w7 : gWd) : gNat := (fun kd as => if kd = 13 then (match as with
  | [.int i] => if i < 0 ∨ L ≤ i.toNatClampNeg then none else some (.int (xs i.toNatClampNeg))
  | _ => none) else if kd = 14 then (if as = [] then some (.int (J L)) else none) else none, fun t as w => @ite _ (t = 75 ∧ as = [.ref 0] ∧ w = wJ) (Classical.propDecidable _) (some (none, cln w7)) none)
theorem natL_14 {L : Nat} {xs : Nat → Int32} {w7 : gWd} : (natL L xs w7).1 14 [] = some (.int (J L)) := rfl
theorem natL_13 {L : Nat} {xs : Nat → Int32} {w7 : gWd} (hL : L ≤ 320) {i : Nat} (hi : i < L) : (natL L xs w7).1 13 [.int (J i)] = some (.int (xs i)) := by
  show (if J i < 0 ∨ L ≤ (J i).toNatClampNeg then none else some (Value.int (xs (J i).toNatClampNeg))) = _
  have hv : ¬ (J i < 0 ∨ L ≤ (J i).toNatClampNeg) := by
    intro h
    rcases h with h | h
    · rw [← J_zero, J_lt (by omega) (by omega)] at h
      omega
    · rw [J_clamp (by omega)] at h
      omega
  rw [if_neg hv, J_clamp (by omega), Int.toNat_natCast]
theorem natL_c {L : Nat} {xs : Nat → Int32} {w7 : gWd} : (natL L xs w7).2 75 [.ref 0] wJ = some (none, cln w7) := by
  unfold natL
  exact if_pos ⟨rfl, rfl, rfl⟩
theorem natL_cI {L : Nat} {xs : Nat → Int32} {w7 : gWd} {t : Nat} {as : List Value} {w : gWd} {u : gRes} (h : (natL L xs w7).2 t as w = some u) : t = 75 ∧ as = [.ref 0] ∧ w = wJ ∧ u = (none, cln w7) := by
  by_cases hc : t = 75 ∧ as = [.ref 0] ∧ w = wJ
  · obtain ⟨h1, h2, h3⟩ := hc
    subst h1
    subst h2
    subst h3
    rw [natL_c] at h
    exact ⟨rfl, rfl, rfl, (Option.some.inj h).symm⟩
  · have : (natL L xs w7).2 t as w = none := by
      unfold natL
      exact if_neg hc
    rw [this] at h
    cases h
theorem gL75 : Cond.methodLink (gR 11) 9 (gName 75) ∈ gTB := List.mem_filter.mpr ⟨by decide +kernel, by decide +kernel⟩
theorem gI75 : ∀ q ∈ gCS 11, q.2.1 = 5 → q.1 = 9 := by decide +kernel
theorem law_main {p : Program} {e : Env} {s : State} {m : MethodId} {below : List Frame} {meth : Method} {c : Code} (l : Launch) {b L : Nat} {xs : Nat → Int32} (hL : L ≤ 320) (C0 : lw_At p s m meth c b L xs) {D : va_G} {cI cR : ClassId} (hE : gE D cI cR s) {o : Nat} {SX : State → Prop} {w7 : gWd}
    (hSX : ∀ U : State, (∀ q, q < s.heap.size → U.heap[q]? = s.heap[q]?) → s.WarmedH U.vm → SX U) (hbl : ∀ (U : State) (g : JFrame) (mk : MethodId) (a : Array Value), SX U → SX (U.calling g mk a))
    (hX : isX w7 4 8 X00 K0 (begS K0) (fun _ => zL) (fun _ => zL)) (hz : w7.2 = (96, 853))
    (hM : ∀ ad : Nat → Nat, ad 0 = s.heap.size → ad gSTR = o → gFresh ad wJ (s.heap.size + 1) → gOK wJ → Met l (gName 75) (gWs 75) (gRm 30 (w7.2.1 - wJ.2.1) (w7.2.2 - wJ.2.2)) (va_Pc ([Value.ref 0].map (gv ad)) (fun U => gPreB D cI cR ad wJ (s.heap.size + 1) U ∧ SX U)) (gPost D cI cR ad (none, w7) (va_A (gws cI cR ad wJ) (s.heap.size + 1))) (w7.2.1 - wJ.2.1) (w7.2.2 - wJ.2.2) (va_A (gws cI cR ad wJ) (s.heap.size + 1))) :
    W p l e room_1 s m #[Value.ref b] below meth c s.heap [] 0 0 (lw_Z below #[Value.ref b] s) (entryFrame m ([Value.ref b] : List Value).toArray 4) := by
  obtain ⟨hx, hb, hr, hml, hown, hts, hXs, hbz, hlk, hgv⟩ := C0
  have hT := hts_gTB hts
  have hz1 : w7.2.1 = 96 := by rw [hz]
  have hz2 : w7.2.2 = 853 := by rw [hz]
  have hXc : isX (cln w7) 4 8 X00 K0 (begS K0) (fun _ => zL) (fun _ => zL) := isX_fr hX (fun z hz' => by
    show (if z < w7.2.1 then w7.1 z else none) = w7.1 z
    rw [hz1, if_pos hz'])
  have hsc : rd (cln w7) gSCR = none := by
    show (if gSCR < w7.2.1 then w7.1 gSCR else none) = none
    rw [hz1, if_neg (by decide)]
  obtain ⟨w', hrun, hw'⟩ := lawRun (nat := natL L xs w7) hL natL_14 (fun i hi => natL_13 hL hi) natL_c hXc hz hsc
  let ad : Nat → Nat := fun k => if k = gSCR then b else if k = gSTR then o else s.heap.size + k
  have had : ∀ k, k < gSTR → ad k = s.heap.size + k := fun k hk => by
    show (if k = gSCR then b else if k = gSTR then o else s.heap.size + k) = _
    have h1 : gSTR < gSCR := by decide
    rw [if_neg (by omega), if_neg (by omega)]
  have hadS : ad gSTR = o := by
    show (if gSTR = gSCR then b else if gSTR = gSTR then o else s.heap.size + gSTR) = _
    rw [if_neg (by decide), if_pos rfl]
  have hadC : ad gSCR = b := if_pos rfl
  have hA : ∀ q, va_A (gws cI cR ad wI) s.heap.size q ↔ s.heap.size ≤ q := fun q => by
    constructor
    · rintro (⟨k, e2, h⟩ | h)
      · have h : ([] : va_W)[k]? = some (q, e2) := h
        rw [List.getElem?_nil] at h
        cases h
      · exact h
    · exact Or.inr
  have hOI : gOK wI := fun k => ⟨fun h => absurd rfl h, fun h => absurd h (Nat.not_lt_zero k)⟩
  have hC : gCtx p s m #[Value.ref b] meth c D cI cR 193 (va_A (gws cI cR ad wI) s.heap.size) := ⟨hx, hb, hml, hr, hlk, fun h => absurd h (by decide +kernel), hown, hT, hE, fun q hq => Or.inr hq⟩
  have hI : gInv D cI cR ad (va_A (gws cI cR ad wI) s.heap.size) s wI s.heap [] 0 0 0 0 := by
    refine ⟨hOI, fun k q h => ?_, ⟨fun i j p q h => ?_, fun k q h => ?_⟩, va_S.rf, fun k _ hk => (had k hk), rfl, rfl⟩
    · have h : ([] : va_W)[k]? = some q := h
      rw [List.getElem?_nil] at h
      cases h
    · have h : ([] : va_W)[i]? = some p := h
      rw [List.getElem?_nil] at h
      cases h
    · have h : ([] : va_W)[k]? = some q := h
      rw [List.getElem?_nil] at h
      cases h
  have hR : gRoomR room_1 30 (some (Value.int (J 1)), w') 0 0 := by
    have e1 : w'.2.1 = 109 := by rw [hw']
    have e2 : w'.2.2 = 1452 := by rw [hw']
    refine ⟨by decide, by decide, ?_, ?_⟩
    · show w'.2.1 - 0 ≤ 600000
      omega
    · show w'.2.2 - 0 ≤ 7302250
      omega
  have hJ : gOK wJ := fun k => by
    show (if k = 0 then _ else none) ≠ none ↔ k < 0 + 1
    by_cases hk : k = 0
    · rw [if_pos hk]
      exact ⟨fun _ => by omega, fun _ h => by cases h⟩
    · rw [if_neg hk]
      exact ⟨fun h => absurd rfl h, fun h => by omega⟩
  have hnat : gNatOK p l e room_1 s m #[Value.ref b] below meth c (MQ below (gPost D cI cR ad (some (Value.int (J 1)), w') (va_A (gws cI cR ad wI) s.heap.size)) #[Value.ref b] s (w'.2.1 - 0) (w'.2.2 - 0) (va_A (gws cI cR ad wI) s.heap.size)) D cI cR ad (va_A (gws cI cR ad wI) s.heap.size) 0 0 193 (natL L xs w7) (some (Value.int (J 1)), w') := by
    refine ⟨?_, ?_, ?_, ?_, ?_⟩
    · intro kd ix t v as pc lsA ls ll rest w H locs cells slots hkd _ h
      rcases hkd with h2 | h2
      · rw [h2] at h; cases h
      · rw [h2] at h; cases h
    · intro v pc lsA rest H locs cells slots h
      cases h
    · intro i v pc lsA rest H locs cells slots h hd hS kk
      have h : (if i < 0 ∨ L ≤ i.toNatClampNeg then none else some (Value.int (xs i.toNatClampNeg))) = some v := h
      by_cases hv : i < 0 ∨ L ≤ i.toNatClampNeg
      · rw [if_pos hv] at h
        cases h
      · rw [if_neg hv] at h
        cases h
        rw [hadC]
        exact va_sld hx hb hXs hbz (fun z => by have := (hA b).mp z; omega) hS hv hd kk
    · intro v pc lsA rest H locs cells slots h hd hS kk
      have h : some (Value.int (J L)) = some v := h
      cases h
      rw [hadC]
      refine va_slen hx hb hXs hbz (fun z => by have := (hA b).mp z; omega) hS hd ?_
      have e1 : Int32.ofNat L = J (L : Int) := (J_nat L).symm
      rw [e1]
      exact kk
    · intro ix t b' st rest u pc lsA ls ll w H locs cells slots hf hn hst hd hcat I hs hle hle0 kk
      obtain ⟨e1, e2, e3, e4⟩ := natL_cI hn
      subst e1
      subst e3
      subst e4
      have hix : ix = 9 := gI75 _ (gFind_mem hf) rfl
      subst hix
      obtain ⟨h1, h2, h3, h4, h5, h6, h7⟩ := id I
      have hsz : H.size = s.heap.size + 1 := by
        have k1 := h5 1 (Nat.le_refl 1) (by decide)
        have k2 := had 1 (by decide)
        rw [k2] at k1
        have k3 : s.heap.size + 1 = H.size + (1 - 1) := k1
        omega
      have hb' : b' = 0 := by
        have e5 := List.cons.inj e2
        have e6 : Value.ref b' = Value.ref 0 := e5.1
        injection e6
      subst hb'
      have g75 : gArg 75 = 0 := by decide +kernel
      rw [g75] at hst
      have hst' : st = .ref 0 :: rest := hst
      have hM1 := hM ad (had 0 (by decide)) hadS (by rw [← hsz]; exact h5) hJ
      have hle2 : gLe wJ w7 := hle
      have hle3 : gLe (cln w7) w' := hle0
      obtain ⟨m1, m2, m3, m4, m5, m6, m7, m8⟩ := gMok_at (j := 75) (by decide)
      have l2 : gSta 75 = false := by decide +kernel
      have l4 : gRet 75 = none := by decide +kernel
      have l3 : (gName 75).name = "<init>" := by decide +kernel
      rw [if_neg (show ¬ (gME 75).2.2.2.2.2.1 = true from by rw [show (gME 75).2.2.2.2.2.1 = false from l2]; decide)] at m7
      have hPS : PreS s H (va_Pc ([Value.ref 0].map (gv ad)) (fun U => gPreB D cI cR ad wJ (s.heap.size + 1) U ∧ SX U)) ([Value.ref 0].map (gv ad)) := by
        refine ⟨fun a U g mk q => ?_, fun U hU hW => ⟨rfl, ⟨by rw [hU]; exact hsz, by rw [hU]; exact h2, hE.warm hW, h3.weaken (fun _ _ _ _ => trivial)⟩, hSX U (fun q hq => ?_) hW⟩⟩
        · obtain ⟨q0, ⟨q1, qP, qK, qD⟩, qX⟩ := q
          exact ⟨q0, ⟨q1, qP, gE.same (s := U) (U := U.calling g mk a) qK rfl, qD⟩, hbl U g mk a qX⟩
        · rw [hU]
          exact h4.2.1 q hq (fun z => by have := (hA q).mp z; omega)
      have hF : cells + (w7.2.1 - wJ.2.1) ≤ room_1.cells ∧ slots + (w7.2.2 - wJ.2.2) ≤ room_1.slots := by
        have e5 : wJ.2.1 = 1 := rfl
        have e6 : wJ.2.2 = 13 := rfl
        have e7 : room_1.cells = 600000 := rfl
        have e8 : room_1.slots = 7302250 := rfl
        omega
      have hws : gWs 75 = Cond.code (gName 75) (gCode 75) (gMax 75) none :: gTB := by unfold gWs; rw [l4]
      have hroom : (gRm 30 (w7.2.1 - wJ.2.1) (w7.2.2 - wJ.2.2)).frames + 1 ≤ room_1.frames ∧ 8 + (gMax 75 + 11) + (gRm 30 (w7.2.1 - wJ.2.1) (w7.2.2 - wJ.2.2)).locals ≤ room_1.locals := by
        have h60 : gMax 75 ≤ 60 := m6
        have e1 : (gRm 30 (w7.2.1 - wJ.2.1) (w7.2.2 - wJ.2.2)).frames = 30 := rfl
        have e2 : (gRm 30 (w7.2.1 - wJ.2.1) (w7.2.2 - wJ.2.2)).locals = 3000 := rfl
        have e3 : room_1.frames = 2048 := rfl
        have e4 : room_1.locals = 84000 := rfl
        rw [e1, e2, e3, e4]
        omega
      have hcat' := gCatOk (m := m) (pc := pc) (lsA := lsA) (st := st) (ad := ad) hcat
      have hgood : ∀ w ∈ gWs 75, w ∈ gTB := gWs_in (by decide)
      have kk' : gKH p l e room_1 s m #[Value.ref b] below meth c (MQ below (gPost D cI cR ad (some (Value.int (J 1)), w') (va_A (gws cI cR ad wI) s.heap.size)) #[Value.ref b] s (w'.2.1 - 0) (w'.2.2 - 0) (va_A (gws cI cR ad wI) s.heap.size)) D cI cR ad (va_A (gws cI cR ad wI) s.heap.size) 0 0 193 (pc + 3, ls, ll, ((none, w7) : gRes).1.toList ++ rest) ((none, w7) : gRes).2 := by
        intro lsB H1 locs1 cells1 slots1 hh hI1
        have hok : gOK w7 := hI1.1
        have kk2 := kk lsB H1 locs1 cells1 slots1 hh
        rw [show ((none, cln w7) : gRes).2 = w7 from cln_eq hok] at kk2
        exact kk2 hI1
      have hA2 : ∀ q : Nat, s.heap.size ≤ q → va_A (gws cI cR ad wI) s.heap.size q := fun q hq => Or.inr hq
      rw [hst', ← hsz] at *
      exact gGo (q := ((none, w7) : gRes)) (mc := w7.2.1 - wJ.2.1) (ms := w7.2.2 - wJ.2.2) (a0 := [Value.ref 0].map (gv ad)) (va_runI (b := ad 0) (As := []) (rest := rest.map (gv ad)) (n := 0) (gFixC hC) hM1 (cwI 0 hT (gGood hgood) hws rfl rfl (hT _ m2) (hT _ gL75) (hT _ m7) l3 m3 hroom) hPS rfl rfl hs.1 rfl hcat' hd hF) hA2 I hs rfl rfl hle2 kk'
  obtain ⟨k, hk⟩ := gL_iff.mp hrun
  have hG := gBody hR (gSound l D cI cR 30) (gC_mono gNatNo 30) hnat hC k _ wI s.heap [] 0 0 _ hk hI (gArgs_has (ad := ad) (as := [.ref gSCR]) (n := 4) (by decide) (fun v hv => by rw [List.mem_singleton.mp hv]; rfl) [] (fun i x h => by rw [List.getElem?_nil] at h; cases h))
  have e5 : ([Value.ref gSCR] : List Value).map (gv ad) = [Value.ref b] := by
    show [Value.ref (ad gSCR)] = _
    rw [hadC]
  rw [e5] at hG
  rw [lg_entry_eq]
  intro T hT0 X
  obtain ⟨t, a1, o2, r1, r2, ⟨g1, g2, g3, g4, g5, g6⟩, L2, r3, r4⟩ := hG T hT0 X
  refine ⟨t, a1, o2, r1, r2, g1, r3.1, r3.2.1, ?_⟩
  have e6 : w'.2.1 = 109 := by rw [hw']
  have e7 : w'.2.2 = 1452 := by rw [hw']
  have h8 := r3.2.2
  have h9 := State.sameButNew.drop_fresh (L := []) (J := L2) h8 (fun x hx => (hA _).mp (r4 x hx))
  exact h9.mono (by show w'.2.1 - 0 ≤ 600000; omega) (by show w'.2.2 - 0 ≤ 7302250; omega)
