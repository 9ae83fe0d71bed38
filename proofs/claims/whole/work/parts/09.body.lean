/-! a whole step, a whole method, every depth -/
section GB
variable {p : Program} {l : Launch} {e : Env} {R : Room} {s : State} {m : MethodId} {args : Array Value} {below : List Frame} {meth : Method} {c : Code} {H : Heap} {locs : List Loc} {cells slots : Nat} {Q : State → Prop}
variable {D : va_G} {cI cR : ClassId} {ad : Nat → Nat} {A : Nat → Prop} {n0 s0 j : Nat} {w : gWd} {pc n : Nat} {lsA : Array Slot} {ls : gLs} {ll : gLl} {st : List Value}
variable {d t : Nat} {q q0 : gRes} {as : List Value}
/-- what is asked of the members that aren't run on the machine (those of a String constant) -/
def gNatOK (p : Program) (l : Launch) (e : Env) (R : Room) (s : State) (m : MethodId) (args : Array Value) (below : List Frame) (meth : Method) (c : Code) (Q : State → Prop) (D : va_G) (cI cR : ClassId) (ad : Nat → Nat) (A : Nat → Prop) (n0 s0 j : Nat) (nat : gNat) (q0 : gRes) : Prop :=
  (∀ (kd ix t : Nat) (v : Value) (as : List Value) (pc : Nat) (lsA : Array Slot) (ls : gLs) (ll : gLl) (rest : List Value) (w : gWd) (H : Heap) (locs : List Loc) (cells slots : Nat), kd = 10 ∨ kd = 11 → gFind (gCS (gOwn j)) ix = some (kd, t) → nat.1 kd as = some v → decode (gCode j) pc = .ok (.invokevirtual ix, 3) → gCat rest ≤ 8 → gInv D cI cR ad A s w H locs cells slots n0 s0 → gHas ad lsA (gMax j) ls ll → gLe w q0.2 → W p l e R s m args below meth c H locs cells slots Q (F0 m (pc + 3) lsA (gv ad v :: rest.map (gv ad))) → W p l e R s m args below meth c H locs cells slots Q (F0 m pc lsA ((as.reverse ++ .ref gSTR :: rest).map (gv ad)))) ∧
  (∀ (v : Value) (pc : Nat) (lsA : Array Slot) (rest : List Value) (H : Heap) (locs : List Loc) (cells slots : Nat), nat.1 12 [] = some v → gOwn j = 8 → decode (gCode j) pc = .ok (.ldc 84, 2) → W p l e R s m args below meth c H locs cells slots Q (F0 m (pc + 2) lsA (gv ad v :: rest.map (gv ad))) → W p l e R s m args below meth c H locs cells slots Q (F0 m pc lsA (rest.map (gv ad)))) ∧
  (∀ (i : Int32) (v : Value) (pc : Nat) (lsA : Array Slot) (rest : List Value) (H : Heap) (locs : List Loc) (cells slots : Nat), nat.1 13 [.int i] = some v → decode (gCode j) pc = .ok (.iaload, 1) → va_S A s.heap H locs → W p l e R s m args below meth c H locs cells slots Q (F0 m (pc + 1) lsA (gv ad v :: rest.map (gv ad))) → W p l e R s m args below meth c H locs cells slots Q (F0 m pc lsA (.int i :: .ref (ad gSCR) :: rest.map (gv ad)))) ∧
  (∀ (v : Value) (pc : Nat) (lsA : Array Slot) (rest : List Value) (H : Heap) (locs : List Loc) (cells slots : Nat), nat.1 14 [] = some v → decode (gCode j) pc = .ok (.arraylength, 1) → va_S A s.heap H locs → W p l e R s m args below meth c H locs cells slots Q (F0 m (pc + 1) lsA (gv ad v :: rest.map (gv ad))) → W p l e R s m args below meth c H locs cells slots Q (F0 m pc lsA (.ref (ad gSCR) :: rest.map (gv ad)))) ∧
  ∀ (ix t b : Nat) (st rest : List Value) (u : gRes) (pc : Nat) (lsA : Array Slot) (ls : gLs) (ll : gLl) (w : gWd) (H : Heap) (locs : List Loc) (cells slots : Nat), gFind (gCS (gOwn j)) ix = some (5, t) → nat.2 t (.ref b :: (st.take (gArg t)).reverse) w = some u → st.drop (gArg t) = .ref b :: rest → decode (gCode j) pc = .ok (.invokespecial ix, 3) → gCat rest ≤ 8 → gInv D cI cR ad A s w H locs cells slots n0 s0 → gHas ad lsA (gMax j) ls ll → gLe w u.2 → gLe u.2 q0.2 → gKH p l e R s m args below meth c Q D cI cR ad A n0 s0 j (pc + 3, ls, ll, u.1.toList ++ rest) u.2 → W p l e R s m args below meth c H locs cells slots Q (F0 m pc lsA (st.map (gv ad)))
def gNatNo : gNat := (fun _ _ => none, fun _ _ _ => none)
theorem gNatNo_ok : gNatOK p l e R s m args below meth c Q D cI cR ad A n0 s0 j gNatNo q0 :=
  ⟨fun kd ix t v as pc lsA ls ll rest w H locs cells slots _ _ h => (by cases h), fun v pc lsA rest H locs cells slots h => (by cases h), fun i v pc lsA rest H locs cells slots h => (by cases h), fun v pc lsA rest H locs cells slots h => (by cases h), fun ix t b st rest u pc lsA ls ll w H locs cells slots _ h => (by cases h)⟩
theorem gRoomC (hR : gRoomR R d q0 n0 s0) (I : gInv D cI cR ad A s w H locs cells slots n0 s0) (h : gLe w q0.2) : cells ≤ R.cells ∧ slots ≤ R.slots := by
  obtain ⟨r1, r2, r3, r4⟩ := hR
  obtain ⟨h1, h2, h3, h4, h5, h6, h7⟩ := I
  have a := h.1
  have b := h.2
  omega
theorem gRoomA (hR : gRoomR R d q0 n0 s0) {k : Nat} {c' : gCell} (I : gInv D cI cR ad A s w H locs cells slots n0 s0) (h : gLe (al w c' k) q0.2) : cells + 1 ≤ R.cells ∧ slots + k ≤ R.slots := by
  obtain ⟨r1, r2, r3, r4⟩ := hR
  obtain ⟨h1, h2, h3, h4, h5, h6, h7⟩ := I
  have a : w.2.1 + 1 ≤ q0.2.2.1 := h.1
  have b : w.2.2 + k ≤ q0.2.2.2 := h.2
  omega
theorem gKSat {o ix : Nat} {x : (Nat × Nat) × Int32} (h : gKS.find? (fun q => q.1 == (o, ix)) = some x) : Cond.constant (gR o) ix x.2 ∈ gTB := by
  have h1 := List.find?_some h
  have h2 := gKS_all _ (List.mem_of_find?_eq_some h)
  have h3 : x.1 = (o, ix) := eq_of_beq h1
  unfold gKSok at h2
  rw [h3] at h2
  exact h2
theorem gKLat {o ix : Nat} {x : (Nat × Nat) × Int64} (h : gKL.find? (fun q => q.1 == (o, ix)) = some x) : Cond.constantLong (gR o) ix x.2 ∈ gTB := by
  have h1 := List.find?_some h
  have h2 := gKL_all _ (List.mem_of_find?_eq_some h)
  have h3 : x.1 = (o, ix) := eq_of_beq h1
  unfold gKLok at h2
  rw [h3] at h2
  exact h2
theorem gBackI {k : Nat} {rest : List Value} {x : Option gRes} {f' : gFr} {w' : gWd} (h : gBack pc ls ll rest x = some (k, .inl (f', w'))) : ∃ u, x = some u ∧ k = 3 ∧ f' = (pc + 3, ls, ll, u.1.toList ++ rest) ∧ w' = u.2 := by
  obtain ⟨u, e1, e2, e3⟩ := gBack_spec h
  cases e3
  exact ⟨u, e1, e2, rfl, rfl⟩
theorem gNxI {k : Nat} {w1 : gWd} {f' : gFr} {w' : gWd} (h : gNx k pc ls ll st w1 = some (n, .inl (f', w'))) : n = k ∧ f' = (pc + k, ls, ll, st) ∧ w' = w1 := by
  obtain ⟨e1, e2⟩ := gNx_spec h
  cases e2
  exact ⟨e1, rfl, rfl⟩
theorem gCall_ok (hR : gRoomR R d q0 n0 s0) {cal : Nat → List Value → gWd → Option gRes} {nat : gNat} (hcal : gCal l D cI cR d cal) (hnat : gNatOK p l e R s m args below meth c Q D cI cR ad A n0 s0 j nat q0) (C : gCtx p s m args meth c D cI cR j A) (I : gInv D cI cR ad A s w H locs cells slots n0 s0) (hs : gHas ad lsA (gMax j) ls ll) {ix kd : Nat} {f' : gFr} {w' : gWd} {i : Instr} (hf : gFind (gCS (gOwn j)) ix = some (kd, t)) (hi : ((kd = 0 ∨ kd = 7 ∨ kd = 10 ∨ kd = 11) ∧ i = .invokevirtual ix) ∨ ((kd = 1 ∨ kd = 2 ∨ kd = 8 ∨ kd = 9) ∧ i = .invokestatic ix)) (h : gCall cal nat kd t pc ls ll st w = some (n, .inl (f', w'))) (hle0 : gLe w' q0.2) (hd : decode (gCode j) pc = .ok (i, n)) (kk : gKH p l e R s m args below meth c Q D cI cR ad A n0 s0 j f' w') : W p l e R s m args below meth c H locs cells slots Q (F0 m pc lsA (st.map (gv ad))) := by
  have hok := gCok_all _ _ (gFind_mem hf)
  have hloc : ∀ r : List Value, gCat r ≤ 8 → ((r.map (gv ad)).map fun v => v.category).sum + 13 ≤ R.locals := by
    intro r hr
    rw [gv_cats]
    obtain ⟨r1, r2, r3, r4⟩ := hR
    omega
  unfold gCall at h
  split at h
  · -- 0
    rcases hi with ⟨-, rfl⟩ | ⟨hi, -⟩
    · split at h
      · rename_i b rest hst
        split at h
        · rename_i ci fs hw
          split at h
          · rename_i hc
            obtain ⟨u, e1, rfl, rfl, rfl⟩ := gBackI h
            exact gVirt_ok hR hcal C I hs hf (Or.inl rfl) hst hw hc.1 hc.2 e1 hle0 hd kk
          · cases h
        · cases h
      · cases h
    · omega
  · -- 7
    rcases hi with ⟨-, rfl⟩ | ⟨hi, -⟩
    · split at h
      · rename_i b rest hst
        split at h
        · rename_i ci fs hw
          split at h
          · rename_i hc
            obtain ⟨u, e1, rfl, rfl, rfl⟩ := gBackI h
            exact gVirt_ok hR hcal C I hs hf (Or.inr rfl) hst hw hc.1 hc.2 e1 hle0 hd kk
          · cases h
        · cases h
      · cases h
    · omega
  · -- 1
    rcases hi with ⟨hi, -⟩ | ⟨-, rfl⟩
    · omega
    · split at h
      · rename_i hc
        obtain ⟨u, e1, rfl, rfl, rfl⟩ := gBackI h
        exact gStat_ok hR hcal C I hs hf (Or.inl rfl) hc.1 hc.2 e1 hle0 hd kk
      · cases h
  · -- 2
    rcases hi with ⟨hi, -⟩ | ⟨-, rfl⟩
    · omega
    · split at h
      · rename_i hc
        obtain ⟨u, e1, rfl, rfl, rfl⟩ := gBackI h
        exact gStat_ok hR hcal C I hs hf (Or.inr rfl) hc.1 hc.2 e1 hle0 hd kk
      · cases h
  · -- 8
    rcases hi with ⟨hi, -⟩ | ⟨-, rfl⟩
    · omega
    · split at h
      · split at h
        · rename_i y x rest hc
          obtain ⟨rfl, rfl, rfl⟩ := gNxI h
          obtain ⟨hx, hb, hml, hr, hlk, hnm, hown, hts, hE, hA⟩ := C
          exact va_mmin hx hb (hml.trans hs.1.symm) hown (hts _ hok) (hts _ gW_minS) (hts _ gW_MathI) (hts _ gW_minC) (Nat.le_trans (Nat.succ_le_succ (Nat.zero_le d)) hR.1) (hloc rest hc) (gRoomC hR I hle0).1 (gRoomC hR I hle0).2 hd (kk lsA H locs cells slots hs I)
        · cases h
      · cases h
  · -- 9
    rcases hi with ⟨hi, -⟩ | ⟨-, rfl⟩
    · omega
    · split at h
      · split at h
        · rename_i y x rest hc
          obtain ⟨rfl, rfl, rfl⟩ := gNxI h
          obtain ⟨hx, hb, hml, hr, hlk, hnm, hown, hts, hE, hA⟩ := C
          exact va_mmax hx hb (hml.trans hs.1.symm) hown (hts _ hok) (hts _ gW_maxS) (hts _ gW_MathI) (hts _ gW_maxC) (Nat.le_trans (Nat.succ_le_succ (Nat.zero_le d)) hR.1) (hloc rest hc) (gRoomC hR I hle0).1 (gRoomC hR I hle0).2 hd (kk lsA H locs cells slots hs I)
        · cases h
      · cases h
  · -- 10
    rcases hi with ⟨-, rfl⟩ | ⟨hi, -⟩
    · split at h
      · split at h
        · rename_i b rest hc
          obtain ⟨v, e1, h⟩ := gBind h
          obtain ⟨rfl, rfl, rfl⟩ := gNxI h
          obtain ⟨rfl, hc⟩ := hc
          exact hnat.1 10 ix t v [] pc lsA ls ll rest w' H locs cells slots (Or.inl rfl) hf e1 hd hc I hs hle0 (kk lsA H locs cells slots hs I)
        · cases h
      · cases h
    · omega
  · -- 11
    rcases hi with ⟨-, rfl⟩ | ⟨hi, -⟩
    · split at h
      · split at h
        · rename_i x b rest hc
          obtain ⟨v, e1, h⟩ := gBind h
          obtain ⟨rfl, rfl, rfl⟩ := gNxI h
          obtain ⟨rfl, hc⟩ := hc
          exact hnat.1 11 ix t v [.int x] pc lsA ls ll rest w' H locs cells slots (Or.inr rfl) hf e1 hd hc I hs hle0 (kk lsA H locs cells slots hs I)
        · cases h
      · cases h
    · omega
  · cases h
theorem gNoH {f' : gFr} {w' : gWd} (h : (none : Option (Nat × ((gFr × gWd) ⊕ gRes))) = some (n, .inl (f', w'))) : False := by cases h
set_option maxHeartbeats 4000000 in
theorem gHeap_ok (hR : gRoomR R d q0 n0 s0) {cal : Nat → List Value → gWd → Option gRes} {nat : gNat} (hcal : gCal l D cI cR d cal) (hnat : gNatOK p l e R s m args below meth c Q D cI cR ad A n0 s0 j nat q0) (C : gCtx p s m args meth c D cI cR j A) (I : gInv D cI cR ad A s w H locs cells slots n0 s0) (hs : gHas ad lsA (gMax j) ls ll) {f' : gFr} {w' : gWd} {i : Instr} (h : gHeap cal nat j i pc ls ll st w = some (n, .inl (f', w'))) (hle0 : gLe w' q0.2) (hd : decode (gCode j) pc = .ok (i, n)) (kk : gKH p l e R s m args below meth c Q D cI cR ad A n0 s0 j f' w') : W p l e R s m args below meth c H locs cells slots Q (F0 m pc lsA (st.map (gv ad))) := by
  unfold gHeap at h
  split at h
  · -- getfield
    split at h
    · rename_i ci k hf
      split at h
      · split at h
        · rename_i a r c1 fs hw
          split at h
          · rename_i hc
            subst hc
            obtain ⟨v, e1, h⟩ := gBind h
            obtain ⟨rfl, rfl, rfl⟩ := gNxI h
            exact gGet_ok C I hs hf hw e1 hd kk
          · cases h
        · cases h
      · cases h
    · cases h
  · -- putfield
    split at h
    · rename_i ci k hf
      split at h
      · split at h
        · rename_i v a r c1 fs hw
          split at h
          · rename_i hc
            obtain ⟨rfl, hc⟩ := hc
            obtain ⟨rfl, rfl, rfl⟩ := gNxI h
            exact gPut_ok C I hs hf hw hc hd kk
          · cases h
        · cases h
      · cases h
    · cases h
  · -- arraylength
    split at h
    · split at h
      · rename_i a r N x hw
        obtain ⟨rfl, rfl, rfl⟩ := gNxI h
        exact gLen_ok C I hs hw hd kk
      · rename_i a r hw
        split at h
        · rename_i ha
          subst ha
          obtain ⟨v, e1, h⟩ := gBind h
          obtain ⟨rfl, rfl, rfl⟩ := gNxI h
          exact hnat.2.2.2.1 v pc lsA _ H locs cells slots e1 hd I.2.2.2.1 (kk lsA H locs cells slots hs I)
        · cases h
      · cases h
    · cases h
  · -- iaload
    split at h
    · split at h
      · rename_i i a r N f hw
        split at h
        · cases h
        · rename_i hin
          obtain ⟨rfl, rfl, rfl⟩ := gNxI h
          exact gIald_ok C I hs hw hin hd kk
      · rename_i i a r x hw
        split at h
        · rename_i ha
          subst ha
          obtain ⟨v, e1, h⟩ := gBind h
          obtain ⟨rfl, rfl, rfl⟩ := gNxI h
          exact hnat.2.2.1 i v pc lsA _ H locs cells slots e1 hd I.2.2.2.1 (kk lsA H locs cells slots hs I)
        · cases h
      · cases h
    · cases h
  · -- aaload
    split at h
    · split at h
      · rename_i i a r N f hw
        split at h
        · cases h
        · rename_i hin
          obtain ⟨rfl, rfl, rfl⟩ := gNxI h
          exact gAald_ok C I hs hw hin hd kk
      · cases h
    · cases h
  · -- iastore
    split at h
    · split at h
      · rename_i x i a r N f hw
        split at h
        · cases h
        · rename_i hin
          obtain ⟨rfl, rfl, rfl⟩ := gNxI h
          exact gIast_ok C I hs hw hin hd kk
      · cases h
    · cases h
  · -- aastore
    split at h
    · split at h
      · rename_i v i a r N f hw
        split at h
        · rename_i c1 fs hv
          split at h
          · rename_i hc
            subst hc
            split at h
            · cases h
            · rename_i hin
              obtain ⟨rfl, rfl, rfl⟩ := gNxI h
              exact gAast_ok C I hs hw hv hin hd kk
          · cases h
        · cases h
      · cases h
    · cases h
  · -- new
    split at h
    · rename_i ci hf
      split at h
      · cases h
      · rename_i hl
        obtain ⟨rfl, rfl, rfl⟩ := gNxI h
        exact gNew_ok C I hs hf hl (gRoomA hR I hle0).1 (gRoomA hR I hle0).2 hd kk
    · cases h
  · -- newarray
    split at h
    · split at h
      · cases h
      · rename_i k r hl
        obtain ⟨rfl, rfl, rfl⟩ := gNxI h
        exact gNewa_ok C I hs hl (gRoomA hR I hle0).1 (gRoomA hR I hle0).2 hd kk
    · cases h
  · -- anewarray
    split at h
    · rename_i hf
      split at h
      · split at h
        · cases h
        · rename_i k r hl
          obtain ⟨rfl, rfl, rfl⟩ := gNxI h
          exact gNewq_ok C I hs hf hl (gRoomA hR I hle0).1 (gRoomA hR I hle0).2 hd kk
      · cases h
    · cases h
  · -- ldc
    split at h
    · rename_i x hx
      obtain ⟨rfl, rfl, rfl⟩ := gNxI h
      have hw := gKSat hx
      obtain ⟨hx, hb, hml, hr, hlk, hnm, hown, hts, hE, hA⟩ := C
      exact lv_ldc hx hb hown (hts _ hw) hd (kk lsA H locs cells slots hs I)
    · split at h
      · rename_i hc
        obtain ⟨hc1, rfl⟩ := hc
        obtain ⟨v, e1, h⟩ := gBind h
        obtain ⟨rfl, rfl, rfl⟩ := gNxI h
        exact hnat.2.1 v pc lsA st H locs cells slots e1 hc1 hd (kk lsA H locs cells slots hs I)
      · cases h
  · -- ldc_w
    split at h
    · rename_i x hx
      obtain ⟨rfl, rfl, rfl⟩ := gNxI h
      have hw := gKSat hx
      obtain ⟨hx, hb, hml, hr, hlk, hnm, hown, hts, hE, hA⟩ := C
      exact lv_ldcw hx hb hown (hts _ hw) hd (kk lsA H locs cells slots hs I)
    · cases h
  · -- ldc2_w
    split at h
    · rename_i x hx
      obtain ⟨rfl, rfl, rfl⟩ := gNxI h
      have hw := gKLat hx
      obtain ⟨hx, hb, hml, hr, hlk, hnm, hown, hts, hE, hA⟩ := C
      exact lv_ldc2 hx hb hown (hts _ hw) hd (kk lsA H locs cells slots hs I)
    · cases h
  · -- invokevirtual
    split at h
    · rename_i ix kd t hf
      split at h
      · rename_i hc
        exact gCall_ok hR hcal hnat C I hs hf (Or.inl ⟨hc, rfl⟩) h hle0 hd kk
      · cases h
    · cases h
  · -- invokestatic
    split at h
    · rename_i ix kd t hf
      split at h
      · rename_i hc
        exact gCall_ok hR hcal hnat C I hs hf (Or.inr ⟨hc, rfl⟩) h hle0 hd kk
      · cases h
    · cases h
  · -- invokespecial
    split at h
    · rename_i ix x kd t hf
      have hok := gCok_all _ _ (gFind_mem hf)
      unfold gInit at h
      split at h
      · split at h
        · rename_i b rest hst
          split at h
          · rename_i hc
            obtain ⟨u, e1, rfl, rfl, rfl⟩ := gBackI h
            exact gCtor_ok hR hcal C I hs hf (Or.inl rfl) hst hc e1 hle0 hd kk
          · cases h
        · cases h
      · split at h
        · rename_i b rest hst
          split at h
          · rename_i hc
            obtain ⟨u, e1, rfl, rfl, rfl⟩ := gBackI h
            exact gCtor_ok hR hcal C I hs hf (Or.inr rfl) hst hc e1 hle0 hd kk
          · cases h
        · cases h
      · split at h
        · rename_i b rest hst
          split at h
          · rename_i hc
            obtain ⟨u, e1, h⟩ := gBind h
            split at h
            · rename_i hle
              obtain ⟨u', e2, rfl, rfl, rfl⟩ := gBackI h
              cases e2
              exact hnat.2.2.2.2 ix t b st rest u pc lsA ls ll w H locs cells slots hf e1 hst hd hc I hs hle hle0 kk
            · cases h
          · cases h
        · cases h
      · split at h
        · split at h
          · rename_i a rest hc
            obtain ⟨rfl, rfl, rfl⟩ := gNxI h
            obtain ⟨hx, hb, hml, hr, hlk, hnm, hown, hts, hE, hA⟩ := C
            refine W.objInit hx hb hown (hts _ hok) (hts _ gW_objI) (hts _ gW_objC) rfl (by rw [hml]; exact hs.1) rfl hd (Nat.le_trans (Nat.succ_le_succ (Nat.zero_le d)) hR.1) ?_ (kk lsA H locs cells slots hs I)
            rw [gv_cats]
            obtain ⟨r1, r2, r3, r4⟩ := hR
            show 2 * 0 + gCat rest + 12 ≤ R.locals
            omega
          · cases h
        · cases h
      · cases h
    · cases h
  · -- ireturn
    repeat' (split at h)
    all_goals (cases h)
  · repeat' (split at h)
    all_goals (cases h)
  · repeat' (split at h)
    all_goals (cases h)
  · cases h
/-- the end of a method -/
theorem gEnd_ok {cal : Nat → List Value → gWd → Option gRes} {nat : gNat} (C : gCtx p s m args meth c D cI cR j A) (I : gInv D cI cR ad A s w H locs cells slots n0 s0) {i : Instr} {x : gRes} (h : gHeap cal nat j i pc ls ll st w = some (n, .inr x)) (hd : decode (gCode j) pc = .ok (i, n)) : x.2 = w ∧ W p l e R s m args below meth c H locs cells slots (MQ below (gPost D cI cR ad x A) args s cells slots A) (F0 m pc lsA (st.map (gv ad))) := by
  obtain ⟨hx, hb, hml, hr, hlk, hnm, hown, hts, hE, hA⟩ := C
  obtain ⟨h1, h2, h3, h4, h5, h6, h7⟩ := I
  have no : ∀ {k pc' : Nat} {st' : List Value} {w1 : gWd}, gNx k pc' ls ll st' w1 = some (n, .inr x) → False := fun h => by unfold gNx at h; cases h
  have nb : ∀ {st' : List Value} {y : Option gRes}, gBack pc ls ll st' y = some (n, .inr x) → False := fun h => by
    obtain ⟨u, -, -, e⟩ := gBack_spec h
    cases e
  unfold gHeap at h
  split at h
  case h_17 =>
    split at h
    · split at h
      · rename_i v ty hty
        split at h
        · rename_i hn
          cases h
          refine ⟨rfl, W.zret hx hb (hr.trans hty) hn (fun t ht hW => ⟨rfl, by rw [ht]; exact h2, h3, by rw [ht]; exact h5, h1, h4.F ht⟩) h4.2.2 hd hlk⟩
        · cases h
      · cases h
    · cases h
  case h_18 =>
    split at h
    · rename_i v
      split at h
      · rename_i nm hty
        split at h
        · rename_i hn
          cases h
          refine ⟨rfl, W.aret (v := gv ad v) hx hb (hr.trans hty) (Or.inl ⟨_, rfl⟩) ?_ (fun t ht hW => ⟨rfl, by rw [ht]; exact h2, h3, by rw [ht]; exact h5, h1, h4.F ht⟩) h4.2.2 hd hlk⟩
          rcases gIsA_spec hn with ⟨a, rfl⟩ | rfl
          · exact Or.inr ⟨_, rfl⟩
          · exact Or.inl rfl
        · cases h
      · cases h
    · cases h
  case h_19 =>
    split at h
    · split at h
      · rename_i hty
        cases h
        refine ⟨rfl, W.vret hx hb (hr.trans hty) (fun t ht hW => ⟨rfl, by rw [ht]; exact h2, h3, by rw [ht]; exact h5, h1, h4.F ht⟩) h4.2.2 hd hlk⟩
      · cases h
    · cases h
  all_goals (try unfold gInit at h)
  all_goals (try unfold gCall at h)
  all_goals (repeat' (split at h))
  all_goals first
    | (cases h; done)
    | exact (no h).elim
    | exact (nb h).elim
    | (obtain ⟨v, -, h⟩ := gBind h; exact (no h).elim)
    | (obtain ⟨v, -, h⟩ := gBind h
       split at h
       · exact (nb h).elim
       · cases h)
end GB
section GB2
variable {p : Program} {l : Launch} {e : Env} {R : Room} {s : State} {m : MethodId} {args : Array Value} {below : List Frame} {meth : Method} {c : Code}
variable {D : va_G} {cI cR : ClassId} {ad : Nat → Nat} {A : Nat → Prop} {n0 s0 j d : Nat} {q0 : gRes}
/-- so many steps on the machine are steps of the bytecode, to its end -/
theorem gBody (hR : gRoomR R d q0 n0 s0) {cal : Nat → List Value → gWd → Option gRes} {nat : gNat} (hcal : gCal l D cI cR d cal) (hm : gMono cal) (hnat : gNatOK p l e R s m args below meth c (MQ below (gPost D cI cR ad q0 A) args s (q0.2.2.1 - n0) (q0.2.2.2 - s0) A) D cI cR ad A n0 s0 j nat q0) (C : gCtx p s m args meth c D cI cR j A) : ∀ (k : Nat) (f : gFr) (w : gWd) (H : Heap) (locs : List Loc) (cells slots : Nat) (lsA : Array Slot), gRun cal nat j k f w = some q0 → gInv D cI cR ad A s w H locs cells slots n0 s0 → gHas ad lsA (gMax j) f.2.1 f.2.2.1 → W p l e R s m args below meth c H locs cells slots (MQ below (gPost D cI cR ad q0 A) args s (q0.2.2.1 - n0) (q0.2.2.2 - s0) A) (F0 m f.1 lsA (f.2.2.2.map (gv ad))) := by
  intro k
  induction k with
  | zero => intro f w H locs cells slots lsA h; cases h
  | succ k ih =>
    intro f w H locs cells slots lsA h I hs
    unfold gRun at h
    split at h
    · cases h
    · rename_i x hst
      cases h
      -- an end
      unfold gStep at hst
      split at hst
      · rename_i i len hd
        split at hst
        · split at hst <;> cases hst
        · split at hst
          · cases hst
          · split at hst
            · rename_i n o hh
              split at hst
              · rename_i hn
                subst hn
                cases hst
                obtain ⟨e1, hW⟩ := gEnd_ok (l := l) (e := e) (below := below) (lsA := lsA) (R := R) C I hh hd
                obtain ⟨h1, h2, h3, h4, h5, h6, h7⟩ := id I
                have ec : cells = q0.2.2.1 - n0 := by rw [e1]; omega
                have es : slots = q0.2.2.2 - s0 := by rw [e1]; omega
                rw [← ec, ← es]
                exact hW
              · cases hst
            · cases hst
      · cases hst
    · rename_i x hst
      have hle := gRun_le hm k _ _ _ h
      unfold gStep at hst
      split at hst
      · rename_i i len hd
        split at hst
        · rename_i n f' hp
          split at hst
          · rename_i hn
            subst hn
            cases hst
            exact gPure_ok C.1 C.2.1 hs hp hd (fun lsB hB => ih f' w H locs cells slots lsB h I hB)
          · cases hst
        · split at hst
          · rename_i f' hp
            cases hst
            exact gSw_ok C.1 C.2.1 hs hp hd (fun lsB hB => ih f' w H locs cells slots lsB h I hB)
          · split at hst
            · rename_i n o hh
              split at hst
              · rename_i hn
                subst hn
                cases hst
                exact gHeap_ok hR hcal hnat C I hs hh hle hd (fun lsB H1 locs1 cells1 slots1 hB I1 => ih _ _ H1 locs1 cells1 slots1 lsB h I1 hB)
              · cases hst
            · cases hst
      · cases hst
end GB2
theorem gArgs_has {ad : Nat → Nat} {as : List Value} {n : Nat} (hl : as.length ≤ n) (hc : ∀ v ∈ as, v.category = 1) (ll : gLl) (hll : ∀ (i : Nat) (x : Int64), ll[i]? ≠ some (some x)) : gHas ad ((lg_sl (as.map (gv ad)) ++ List.replicate (n - (lg_sl (as.map (gv ad))).length) Slot.unset).toArray) n (as.map some ++ List.replicate (n - as.length) none) ll := by
  have key : ∀ (bs : List Value), (∀ v ∈ bs, v.category = 1) → lg_sl (bs.map (gv ad)) = bs.map (fun v => Slot.val (gv ad v)) := by
    intro bs
    induction bs with
    | nil => intro _; rfl
    | cons v bs ih =>
      intro h
      have h1 := h v List.mem_cons_self
      have h2 := ih (fun u hu => h u (List.mem_cons_of_mem _ hu))
      have : ∀ u : Value, u.category = 1 → ∀ us : List Value, lg_sl (u :: us) = Slot.val u :: lg_sl us := by
        intro u hu us
        simp [lg_sl, hu]
      rw [List.map_cons, this _ (by rw [gv_cat]; exact h1), h2]
      rfl
  have hlen : (lg_sl (as.map (gv ad))).length = as.length := by rw [key as hc, List.length_map]
  have hl0 := lv_entry (as.map (gv ad)) (n := n) (by rw [hlen]; exact hl)
  refine ⟨hl0.1, hl0.2.1, by simp; omega, fun i v hv => ?_, fun i x hx => absurd hx (hll i x)⟩
  rw [List.getElem?_append] at hv
  split at hv
  · rename_i hi
    rw [List.getElem?_map] at hv
    cases ha : as[i]? with
    | none => rw [ha] at hv; cases hv
    | some u =>
      rw [ha] at hv
      cases hv
      refine ⟨?_, hc _ (List.mem_of_getElem? ha)⟩
      rw [List.getElem?_toArray, List.getElem?_append, key as hc, List.length_map]
      rw [List.length_map] at hi
      rw [if_pos hi, List.getElem?_map, ha]
      rfl
  · rename_i hi
    rw [List.getElem?_replicate] at hv
    split at hv <;> cases hv
theorem gIn_ll (j : Nat) : ∀ (i : Nat) (x : Int64), (if gLong j = true then List.replicate (gMax j) (none : Option Int64) else [])[i]? ≠ some (some x) := by
  intro i x h
  split at h
  · rw [List.getElem?_replicate] at h
    split at h <;> cases h
  · cases h
/-- one method, its callees and what isn't run here being known -/
theorem gMet_of {l : Launch} {D : va_G} {cI cR : ClassId} {d j : Nat} {cal : Nat → List Value → gWd → Option gRes} {nat : gNat} {as : List Value} {w : gWd} {q : gRes} {ad : Nat → Nat} {sz : Nat} (hcal : gCal l D cI cR d cal) (hm : gMono cal) (SX : State → Prop)
    (hnat : ∀ (p : Program) (e : Env) (s : State) (m : MethodId) (below : List Frame) (meth : Method) (c : Code), s.heap.size = sz → SX s → gCtx p s m (as.map (gv ad)).toArray meth c D cI cR j (va_A (gws cI cR ad w) sz) → gNatOK p l e (gRm (d + 1) (q.2.2.1 - w.2.1) (q.2.2.2 - w.2.2)) s m (as.map (gv ad)).toArray below meth c (MQ below (gPost D cI cR ad q (va_A (gws cI cR ad w) sz)) (as.map (gv ad)).toArray s (q.2.2.1 - w.2.1) (q.2.2.2 - w.2.2) (va_A (gws cI cR ad w) sz)) D cI cR ad (va_A (gws cI cR ad w) sz) w.2.1 w.2.2 j nat q)
    (h193 : j < 193) (hlen : as.length ≤ gMax j) (hc : ∀ v ∈ as, v.category = 1) (h : gL cal nat j (gIn j as) w = some q) (hF : gFresh ad w sz) (hO : gOK w) : Met l (gName j) (gWs j) (gRm (d + 1) (q.2.2.1 - w.2.1) (q.2.2.2 - w.2.2)) (va_Pc (as.map (gv ad)) (fun U => gPreB D cI cR ad w sz U ∧ SX U)) (gPost D cI cR ad q (va_A (gws cI cR ad w) sz)) (q.2.2.1 - w.2.1) (q.2.2.2 - w.2.2) (va_A (gws cI cR ad w) sz) := by
  obtain ⟨m1, m2, m3, m4, m5, m6, m7, m8⟩ := gMok_at h193
  refine Met.ofW (cc := gCode j) (maxL := gMax j) (ret := gRet j) m4 rfl ?_
  intro p e s m args below meth c s₁ B hml hv
  obtain ⟨rfl, ⟨hsz, hP, hE, hD0⟩, hSX⟩ := hv
  have hts := atoms_spec (ws := gWs j) B.pre
  have m5 : (gName j).cls = gR (gOwn j) := m5
  have C : gCtx p s m (as.map (gv ad)).toArray meth c D cI cR j (va_A (gws cI cR ad w) sz) := by
    refine ⟨B.exec, B.bytes, hml, B.returns, B.notSynchronized, fun h => (name_of_methodNamed B.named B.method).1.trans h, by rw [← m5]; exact findClass_of_methodNamed B.named, fun x hx => hts x (List.mem_cons_of_mem _ hx), hE, fun x hx => Or.inr (by rw [← hsz]; exact hx)⟩
  have I : gInv D cI cR ad (va_A (gws cI cR ad w) sz) s w s.heap [] 0 0 w.2.1 w.2.2 := ⟨hO, hP, hD0.self, va_S.rf, by rw [hsz]; exact hF, Nat.zero_add _, Nat.zero_add _⟩
  obtain ⟨k, hk⟩ := gL_iff.mp h
  rw [lg_entry_eq]
  exact gBody ⟨Nat.le_refl _, Nat.le_refl _, Nat.le_refl _, Nat.le_refl _⟩ hcal hm (hnat p e s m below meth c hsz hSX C) C k (gIn j as) w s.heap [] 0 0 _ hk I (gArgs_has hlen hc _ (gIn_ll j))
theorem Met.noX {l : Launch} {y : MethodName} {ws : List Cond} {rm : Room} {av : List Value} {B : State → Prop} {Qc : Array Value → State → Outcome → State → Prop} {mc ms : Nat} {free : Addr → Prop} (h : Met l y ws rm (va_Pc av (fun U => B U ∧ True)) Qc mc ms free) : Met l y ws rm (va_Pc av B) Qc mc ms free := by
  have e : (fun U => B U ∧ True) = B := funext fun U => propext ⟨fun h => h.1, fun h => ⟨h, trivial⟩⟩
  rw [e] at h
  exact h
/-- EVERY METHOD, EVERY DEPTH: what the machine answers, the bytecode answers -/
theorem gSound (l : Launch) (D : va_G) (cI cR : ClassId) : ∀ d, gCal l D cI cR d (gC gNatNo d) := by
  intro d
  induction d with
  | zero => intro t as w q h; cases h
  | succ d ih =>
    intro t as w q h
    have hle := gC_mono gNatNo (d + 1) t as w q h
    unfold gC at h
    obtain ⟨⟨a1, a2, a3, a4⟩, h⟩ := gIte h
    refine ⟨a1, a2, fun ad sz hF hO => ?_, hle⟩
    exact Met.noX (gMet_of ih (gC_mono _ d) (fun _ => True) (fun p e s m below meth c _ _ _ => gNatNo_ok) a1 a3 a4 h hF hO)
