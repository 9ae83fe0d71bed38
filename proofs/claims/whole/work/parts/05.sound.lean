/-! the machine's worlds in the kit's words; then: what the machine does, the bytecode does -/
def gv (ad : Nat → Nat) (v : Value) : Value := match v with
  | .ref a => .ref (ad a)
  | v => v
theorem gv_cat (ad : Nat → Nat) (v : Value) : (gv ad v).category = v.category := by cases v <;> rfl
theorem gv_cats (ad : Nat → Nat) (st : List Value) : ((st.map (gv ad)).map fun v => v.category).sum = gCat st := by
  unfold gCat
  rw [List.map_map]
  congr 1
  apply List.map_congr_left
  intro v _
  exact gv_cat ad v
def ge (cI cR : ClassId) (ad : Nat → Nat) (c : gCell) : va_E := match c with
  | none => .inr (0, [])
  | some (.inl (ci, fs)) => .inr (ci, fs.map (gv ad))
  | some (.inr (n, .inl f)) => .inl (cI, n, .inl f)
  | some (.inr (n, .inr f)) => .inl (cR, n, .inr (.inr (.inr (.inr (fun i => (f i).map ad)))))
def gws (cI cR : ClassId) (ad : Nat → Nat) (w : gWd) : va_W := (List.range w.2.1).map fun k => (ad k, ge cI cR ad (w.1 k))
def gOK (w : gWd) : Prop := ∀ k, w.1 k ≠ none ↔ k < w.2.1
theorem gws_at {cI cR : ClassId} {ad : Nat → Nat} {w : gWd} {k : Nat} (h : k < w.2.1) : (gws cI cR ad w)[k]? = some (ad k, ge cI cR ad (w.1 k)) := by
  unfold gws
  rw [List.getElem?_map, List.getElem?_range h]
  rfl
theorem gws_len {cI cR : ClassId} {ad : Nat → Nat} {w : gWd} : (gws cI cR ad w).length = w.2.1 := by
  unfold gws
  rw [List.length_map, List.length_range]
theorem gws_set {cI cR : ClassId} {ad : Nat → Nat} {w : gWd} {k : Nat} {c : gCell} : (gws cI cR ad w).set k (ad k, ge cI cR ad c) = gws cI cR ad (wr w k c) := by
  apply List.ext_getElem?
  intro i
  rw [List.getElem?_set]
  by_cases hi : i < w.2.1
  · have h2 : (gws cI cR ad (wr w k c))[i]? = some (ad i, ge cI cR ad ((wr w k c).1 i)) := gws_at hi
    rw [h2]
    by_cases hk : k = i
    · subst hk
      rw [if_pos rfl, if_pos (by rw [gws_len]; exact hi), show (wr w k c).1 k = if k = k then c else w.1 k from rfl, if_pos rfl]
    · rw [if_neg hk, gws_at hi, show (wr w k c).1 i = if i = k then c else w.1 i from rfl, if_neg (Ne.symm hk)]
  · have e1 : (gws cI cR ad w)[i]? = none := List.getElem?_eq_none (by rw [gws_len]; omega)
    have e2 : (gws cI cR ad (wr w k c))[i]? = none := List.getElem?_eq_none (by rw [gws_len]; exact Nat.not_lt.mp hi)
    rw [e1, e2]
    by_cases hk : k = i
    · rw [if_pos hk, if_neg (by rw [gws_len]; omega)]
    · rw [if_neg hk]
theorem gws_al {cI cR : ClassId} {ad : Nat → Nat} {w : gWd} {c : gCell} {s : Nat} : gws cI cR ad w ++ [(ad w.2.1, ge cI cR ad c)] = gws cI cR ad (al w c s) := by
  unfold gws al
  show _ = (List.range (w.2.1 + 1)).map _
  rw [List.range_succ, List.map_append]
  congr 1
  · apply List.map_congr_left
    intro k hk
    have : k ≠ w.2.1 := Nat.ne_of_lt (List.mem_range.mp hk)
    simp [this]
  · simp
theorem gOK_wr {w : gWd} {k : Nat} {c : gCell} (h : gOK w) (hk : w.1 k ≠ none) (hc : c ≠ none) : gOK (wr w k c) := by
  intro i
  unfold wr
  by_cases hi : i = k
  · subst hi
    simp only [if_pos]
    exact ⟨fun _ => (h i).mp hk, fun _ => hc⟩
  · simp only [if_neg hi]
    exact h i
theorem gOK_al {w : gWd} {c : gCell} {s : Nat} (h : gOK w) (hc : c ≠ none) : gOK (al w c s) := by
  intro i
  unfold al
  show (if i = w.2.1 then c else w.1 i) ≠ none ↔ i < w.2.1 + 1
  by_cases hi : i = w.2.1
  · rw [if_pos hi]
    exact ⟨fun _ => by omega, fun _ => hc⟩
  · rw [if_neg hi, h i]
    omega
theorem gOK_lt {w : gWd} (h : gOK w) {k : Nat} {c : (Nat × List Value) ⊕ (Nat × ((Nat → Int32) ⊕ (Nat → Option Nat)))} (hk : w.1 k = some c) : k < w.2.1 := (h k).mp (by rw [hk]; exact fun e => by cases e)
/-- the locals -/
def gHas (ad : Nat → Nat) (lsA : Array Slot) (nL : Nat) (ls : gLs) (ll : gLl) : Prop := lsA.size = nL ∧ lv_wf lsA ∧ ls.length = nL ∧ (∀ (i : Nat) (v : Value), ls[i]? = some (some v) → lsA[i]? = some (.val (gv ad v)) ∧ v.category = 1) ∧ ∀ (i : Nat) (x : Int64), ll[i]? = some (some x) → lsA[i]? = some (.val (.long x))
def gPr (ad : Nat → Nat) (ls : gLs) (ll : gLl) : List (Nat × Value) := (List.range ls.length).filterMap (fun i => match ls[i]? with
  | some (some v) => some (i, gv ad v)
  | _ => none) ++ (List.range ll.length).filterMap (fun i => match ll[i]? with
  | some (some x) => some (i, Value.long x)
  | _ => none)
theorem gPr_mem {ad : Nat → Nat} {ls : gLs} {ll : gLl} {q : Nat × Value} (h : q ∈ gPr ad ls ll) : (∃ v, ls[q.1]? = some (some v) ∧ q.2 = gv ad v) ∨ ∃ x, ll[q.1]? = some (some x) ∧ q.2 = .long x := by
  unfold gPr at h
  rcases List.mem_append.mp h with h | h
  · obtain ⟨i, -, hi⟩ := List.mem_filterMap.mp h
    split at hi
    · rename_i v e
      cases hi
      exact Or.inl ⟨v, e, rfl⟩
    · cases hi
  · obtain ⟨i, -, hi⟩ := List.mem_filterMap.mp h
    split at hi
    · rename_i x e
      cases hi
      exact Or.inr ⟨x, e, rfl⟩
    · cases hi
theorem gPr_in {ad : Nat → Nat} {ls : gLs} {ll : gLl} {i : Nat} {v : Value} (h : ls[i]? = some (some v)) : (i, gv ad v) ∈ gPr ad ls ll := by
  unfold gPr
  refine List.mem_append_left _ (List.mem_filterMap.mpr ⟨i, List.mem_range.mpr (List.getElem?_eq_some_iff.mp h).1, ?_⟩)
  rw [h]
theorem gPr_inL {ad : Nat → Nat} {ls : gLs} {ll : gLl} {i : Nat} {x : Int64} (h : ll[i]? = some (some x)) : (i, Value.long x) ∈ gPr ad ls ll := by
  unfold gPr
  refine List.mem_append_right _ (List.mem_filterMap.mpr ⟨i, List.mem_range.mpr (List.getElem?_eq_some_iff.mp h).1, ?_⟩)
  rw [h]
theorem gHas.lv {ad : Nat → Nat} {lsA : Array Slot} {nL : Nat} {ls : gLs} {ll : gLl} (h : gHas ad lsA nL ls ll) : lv_has lsA nL (gPr ad ls ll) := by
  refine ⟨h.1, h.2.1, fun q hq => ?_⟩
  rcases gPr_mem hq with ⟨v, e1, e2⟩ | ⟨x, e1, e2⟩
  · rw [e2]
    exact (h.2.2.2.1 _ _ e1).1
  · rw [e2]
    exact h.2.2.2.2 _ _ e1
theorem gSet_at {α : Type} {l : List (Option α)} {i j : Nat} {x : Option α} {v : α} (h : (l.set i x)[j]? = some (some v)) : (i = j ∧ x = some v) ∨ (i ≠ j ∧ l[j]? = some (some v)) := by
  rw [List.getElem?_set] at h
  by_cases hij : i = j
  · rw [if_pos hij] at h
    split at h
    · exact Or.inl ⟨hij, Option.some.inj h⟩
    · cases h
  · rw [if_neg hij] at h
    exact Or.inr ⟨hij, h⟩
theorem gSet_none {α : Type} {l : List (Option α)} {i j : Nat} {v : α} (h : (l.set i none)[j]? = some (some v)) : i ≠ j ∧ l[j]? = some (some v) := by
  rcases gSet_at h with ⟨_, e⟩ | h
  · cases e
  · exact h
/-- behind a store of one slot -/
theorem gHas.st1 {ad : Nat → Nat} {lsA : Array Slot} {nL : Nat} {ls : gLs} {ll : gLl} (h : gHas ad lsA nL ls ll) {i : Nat} {v : Value} (hv : v.category = 1) {ls' : Array Slot}
    (h' : lv_has ls' nL ((i, gv ad v) :: (gPr ad ls ll).filter (fun q => !(q.1 == i) && !(q.1 + 1 == i && q.2.category == 2)))) : gHas ad ls' nL (ls.set i (some v)) (gClr ll i) := by
  refine ⟨h'.1, h'.2.1, by rw [List.length_set]; exact h.2.2.1, fun k u hk => ?_, fun k x hk => ?_⟩
  · rcases gSet_at hk with ⟨e1, e2⟩ | ⟨e1, e2⟩
    · cases e2
      subst e1
      exact ⟨h'.2.2 (i, gv ad v) List.mem_cons_self, hv⟩
    · have hc := (h.2.2.2.1 _ _ e2).2
      refine ⟨h'.2.2 (k, gv ad u) (List.mem_cons_of_mem _ (List.mem_filter.mpr ⟨gPr_in e2, ?_⟩)), hc⟩
      simp [gv_cat, hc, Ne.symm e1]
  · obtain ⟨e1, h2⟩ := gSet_none hk
    obtain ⟨e2, h3⟩ := gSet_none h2
    refine h'.2.2 (k, Value.long x) (List.mem_cons_of_mem _ (List.mem_filter.mpr ⟨gPr_inL h3, ?_⟩))
    have : ¬ k + 1 = i := by omega
    simp [Ne.symm e2, this]
/-- .. of two -/
theorem gHas.st2 {ad : Nat → Nat} {lsA : Array Slot} {nL : Nat} {ls : gLs} {ll : gLl} (h : gHas ad lsA nL ls ll) {i : Nat} {x : Int64} {ls' : Array Slot}
    (h' : lv_has ls' nL ((i, Value.long x) :: (gPr ad ls ll).filter (fun q => !(q.1 == i) && (!(q.1 == i + 1) && !(q.1 + 1 == i && q.2.category == 2))))) : gHas ad ls' nL ((ls.set i none).set (i + 1) none) (((gClr ll i).set (i + 1) none).set i (some x)) := by
  refine ⟨h'.1, h'.2.1, by rw [List.length_set, List.length_set]; exact h.2.2.1, fun k u hk => ?_, fun k y hk => ?_⟩
  · obtain ⟨e1, h2⟩ := gSet_none hk
    obtain ⟨e2, h3⟩ := gSet_none h2
    have hc := (h.2.2.2.1 _ _ h3).2
    refine ⟨h'.2.2 (k, gv ad u) (List.mem_cons_of_mem _ (List.mem_filter.mpr ⟨gPr_in h3, ?_⟩)), hc⟩
    simp [gv_cat, hc, Ne.symm e1, Ne.symm e2]
  · rcases gSet_at hk with ⟨e1, e2⟩ | ⟨e1, h2⟩
    · cases e2
      subst e1
      exact h'.2.2 (i, Value.long x) List.mem_cons_self
    · obtain ⟨e2, h3⟩ := gSet_none h2
      obtain ⟨e3, h4⟩ := gSet_none h3
      obtain ⟨e4, h5⟩ := gSet_none h4
      refine h'.2.2 (k, Value.long y) (List.mem_cons_of_mem _ (List.mem_filter.mpr ⟨gPr_inL h5, ?_⟩))
      have : ¬ k + 1 = i := by omega
      simp [Ne.symm e1, Ne.symm e2, this]
theorem gTgt_spec {pc : Nat} {off : Int} {t : Nat} (h : gTgt pc off = some t) : (pc : Int) + off = (t : Int) := by
  unfold gTgt at h
  split at h
  · cases h
    omega
  · cases h
section GP
variable {p : Program} {l : Launch} {e : Env} {R : Room} {s : State} {m : MethodId} {args : Array Value} {below : List Frame} {meth : Method} {c : Code} {H : Heap} {locs : List Loc} {cells slots : Nat} {Q : State → Prop}
variable {cc : ByteArray} {pc : Nat} {lsA : Array Slot} {nL : Nat} {ad : Nat → Nat} {ls : gLs} {ll : gLl} {st : List Value} {n : Nat} {f' : gFr}
/-- the goal behind an instruction that touches no cell -/
def gK (p : Program) (l : Launch) (e : Env) (R : Room) (s : State) (m : MethodId) (args : Array Value) (below : List Frame) (meth : Method) (c : Code) (H : Heap) (locs : List Loc) (cells slots : Nat) (Q : State → Prop) (ad : Nat → Nat) (nL : Nat) (f' : gFr) : Prop := ∀ lsB : Array Slot, gHas ad lsB nL f'.2.1 f'.2.2.1 → W p l e R s m args below meth c H locs cells slots Q (F0 m f'.1 lsB (f'.2.2.2.map (gv ad)))
theorem gLdI_spec {v : Value} {i : Nat} (h : gLdI ls i = some v) : ∃ x, v = .int x ∧ ls[i]? = some (some (.int x)) := by
  unfold gLdI at h
  split at h
  · rename_i x e
    cases h
    exact ⟨x, rfl, e⟩
  · cases h
theorem gLdA_spec {v : Value} {i : Nat} (h : gLdA ls i = some v) : ls[i]? = some (some v) ∧ ((∃ a, v = .ref a) ∨ v = .null) := by
  unfold gLdA at h
  split at h
  · rename_i x e
    cases h
    exact ⟨e, Or.inl ⟨_, rfl⟩⟩
  · rename_i e
    cases h
    exact ⟨e, Or.inr rfl⟩
  · cases h
theorem gLdL_spec {v : Value} {i : Nat} (h : gLdL ll i = some v) : ∃ x, v = .long x ∧ ll[i]? = some (some x) := by
  unfold gLdL at h
  split at h
  · rename_i x e
    cases h
    exact ⟨x, rfl, e⟩
  · cases h
theorem gPush_spec {v : Option Value} (h : gPush n pc ls ll v st = some (nL, f')) : ∃ u, v = some u ∧ nL = n ∧ f' = (pc + n, ls, ll, u :: st) := by
  unfold gPush at h
  cases v with
  | none => cases h
  | some u => cases h; exact ⟨u, rfl, rfl, rfl⟩
theorem gIsA_spec {v : Value} (h : gIsA v = true) : (∃ a, v = .ref a) ∨ v = .null := by
  cases v <;> first | exact Or.inl ⟨_, rfl⟩ | exact Or.inr rfl | (exact absurd h (by simp [gIsA]))
theorem gLd_ok (hexec : p.tables.exec = Jvm.exec) (hb : c.code = cc) {k : Nat} {v : Option Value} (hs : gHas ad lsA nL ls ll) (h : gPush k pc ls ll v st = some (n, f')) (kk : gK p l e R s m args below meth c H locs cells slots Q ad nL f')
    (row : ∀ u, v = some u → W p l e R s m args below meth c H locs cells slots Q (F0 m (pc + k) lsA (gv ad u :: st.map (gv ad))) → W p l e R s m args below meth c H locs cells slots Q (F0 m pc lsA (st.map (gv ad)))) : W p l e R s m args below meth c H locs cells slots Q (F0 m pc lsA (st.map (gv ad))) := by
  obtain ⟨u, e1, rfl, rfl⟩ := gPush_spec h
  exact row u e1 (kk lsA hs)
theorem gBin_ok {g : Int32 → Int32 → Int32} (hs : gHas ad lsA nL ls ll) (h : gBin g pc ls ll st = some (n, f')) (kk : gK p l e R s m args below meth c H locs cells slots Q ad nL f')
    (row : ∀ (x y : Int32) (rest : List Value), n = 1 → W p l e R s m args below meth c H locs cells slots Q (F0 m (pc + 1) lsA (.int (g x y) :: rest)) → W p l e R s m args below meth c H locs cells slots Q (F0 m pc lsA (.int y :: .int x :: rest))) : W p l e R s m args below meth c H locs cells slots Q (F0 m pc lsA (st.map (gv ad))) := by
  unfold gBin at h
  split at h
  · cases h
    exact row _ _ _ rfl (kk lsA hs)
  · cases h
theorem gBin0_ok {g : Int32 → Int32 → Int32} (hs : gHas ad lsA nL ls ll) (h : gBin0 g pc ls ll st = some (n, f')) (kk : gK p l e R s m args below meth c H locs cells slots Q ad nL f')
    (row : ∀ (x y : Int32) (rest : List Value), n = 1 → ¬ y = 0 → W p l e R s m args below meth c H locs cells slots Q (F0 m (pc + 1) lsA (.int (g x y) :: rest)) → W p l e R s m args below meth c H locs cells slots Q (F0 m pc lsA (.int y :: .int x :: rest))) : W p l e R s m args below meth c H locs cells slots Q (F0 m pc lsA (st.map (gv ad))) := by
  unfold gBin0 at h
  split at h
  · split at h
    · cases h
    · rename_i hy
      cases h
      exact row _ _ _ rfl hy (kk lsA hs)
  · cases h
theorem gBinL_ok {g : Int64 → Int64 → Int64} (hs : gHas ad lsA nL ls ll) (h : gBinL g pc ls ll st = some (n, f')) (kk : gK p l e R s m args below meth c H locs cells slots Q ad nL f')
    (row : ∀ (x y : Int64) (rest : List Value), n = 1 → W p l e R s m args below meth c H locs cells slots Q (F0 m (pc + 1) lsA (.long (g x y) :: rest)) → W p l e R s m args below meth c H locs cells slots Q (F0 m pc lsA (.long y :: .long x :: rest))) : W p l e R s m args below meth c H locs cells slots Q (F0 m pc lsA (st.map (gv ad))) := by
  unfold gBinL at h
  split at h
  · cases h
    exact row _ _ _ rfl (kk lsA hs)
  · cases h
theorem gBin0L_ok {g : Int64 → Int64 → Int64} (hs : gHas ad lsA nL ls ll) (h : gBin0L g pc ls ll st = some (n, f')) (kk : gK p l e R s m args below meth c H locs cells slots Q ad nL f')
    (row : ∀ (x y : Int64) (rest : List Value), n = 1 → ¬ y = 0 → W p l e R s m args below meth c H locs cells slots Q (F0 m (pc + 1) lsA (.long (g x y) :: rest)) → W p l e R s m args below meth c H locs cells slots Q (F0 m pc lsA (.long y :: .long x :: rest))) : W p l e R s m args below meth c H locs cells slots Q (F0 m pc lsA (st.map (gv ad))) := by
  unfold gBin0L at h
  split at h
  · split at h
    · cases h
    · rename_i hy
      cases h
      exact row _ _ _ rfl hy (kk lsA hs)
  · cases h
theorem gJmp_spec {off : Int} (h : gJmp pc ls ll off st = some (n, f')) : ∃ t : Nat, (pc : Int) + off = (t : Int) ∧ n = 3 ∧ f' = (t, ls, ll, st) := by
  unfold gJmp at h
  cases ht : gTgt pc off with
  | none => rw [ht] at h; cases h
  | some t =>
    rw [ht] at h
    cases h
    exact ⟨t, gTgt_spec ht, rfl, rfl⟩
theorem gNo (h : (none : Option (Nat × gFr)) = some (n, f')) : False := by cases h
theorem gStI_ok (hexec : p.tables.exec = Jvm.exec) (hb : c.code = cc) {k i : Nat} (hs : gHas ad lsA nL ls ll) (h : gStI k pc ls ll i st = some (n, f')) (kk : gK p l e R s m args below meth c H locs cells slots Q ad nL f')
    (row : ∀ (x : Int32) (rest : List Value), n = k → i < nL → (∀ ls' : Array Slot, lv_has ls' nL ((i, Value.int x) :: (gPr ad ls ll).filter (fun q => !(q.1 == i) && !(q.1 + 1 == i && q.2.category == 2))) → W p l e R s m args below meth c H locs cells slots Q (F0 m (pc + k) ls' rest)) → W p l e R s m args below meth c H locs cells slots Q (F0 m pc lsA (.int x :: rest))) : W p l e R s m args below meth c H locs cells slots Q (F0 m pc lsA (st.map (gv ad))) := by
  unfold gStI at h
  split at h
  · split at h
    · rename_i x r hi
      cases h
      exact row _ _ rfl (by rw [← hs.2.2.1]; exact hi) fun ls' h' => kk ls' (hs.st1 (v := .int x) rfl h')
    · cases h
  · cases h
theorem gStA_ok (hexec : p.tables.exec = Jvm.exec) (hb : c.code = cc) {k i : Nat} (hs : gHas ad lsA nL ls ll) (h : gStA k pc ls ll i st = some (n, f')) (kk : gK p l e R s m args below meth c H locs cells slots Q ad nL f')
    (row : ∀ (v : Value) (rest : List Value), n = k → i < nL → ((∃ a, v = .ref a) ∨ v = .null) → (∀ ls' : Array Slot, lv_has ls' nL ((i, v) :: (gPr ad ls ll).filter (fun q => !(q.1 == i) && !(q.1 + 1 == i && q.2.category == 2))) → W p l e R s m args below meth c H locs cells slots Q (F0 m (pc + k) ls' rest)) → W p l e R s m args below meth c H locs cells slots Q (F0 m pc lsA (v :: rest))) : W p l e R s m args below meth c H locs cells slots Q (F0 m pc lsA (st.map (gv ad))) := by
  unfold gStA at h
  split at h
  · rename_i v r
    split at h
    · rename_i hi
      cases h
      rcases gIsA_spec hi.2 with ⟨a, rfl⟩ | rfl
      · exact row _ _ rfl (by rw [← hs.2.2.1]; exact hi.1) (Or.inl ⟨_, rfl⟩) fun ls' h' => kk ls' (hs.st1 (v := .ref a) rfl h')
      · exact row _ _ rfl (by rw [← hs.2.2.1]; exact hi.1) (Or.inr rfl) fun ls' h' => kk ls' (hs.st1 (v := .null) rfl h')
    · cases h
  · cases h
theorem gStL_ok (hexec : p.tables.exec = Jvm.exec) (hb : c.code = cc) {k i : Nat} (hs : gHas ad lsA nL ls ll) (h : gStL k pc ls ll i st = some (n, f')) (kk : gK p l e R s m args below meth c H locs cells slots Q ad nL f')
    (row : ∀ (x : Int64) (rest : List Value), n = k → i + 1 < nL → (∀ ls' : Array Slot, lv_has ls' nL ((i, Value.long x) :: (gPr ad ls ll).filter (fun q => !(q.1 == i) && (!(q.1 == i + 1) && !(q.1 + 1 == i && q.2.category == 2)))) → W p l e R s m args below meth c H locs cells slots Q (F0 m (pc + k) ls' rest)) → W p l e R s m args below meth c H locs cells slots Q (F0 m pc lsA (.long x :: rest))) : W p l e R s m args below meth c H locs cells slots Q (F0 m pc lsA (st.map (gv ad))) := by
  unfold gStL at h
  split at h
  · split at h
    · rename_i x r hi
      cases h
      exact row _ _ rfl (by rw [← hs.2.2.1]; exact hi) fun ls' h' => kk ls' (hs.st2 h')
    · cases h
  · cases h
theorem gIcmp_ok (hexec : p.tables.exec = Jvm.exec) (hb : c.code = cc) {k : ClassFile.Cond} {off : Int} (hs : gHas ad lsA nL ls ll) (h : gPure (.if_icmp k off) pc ls ll st = some (n, f')) (hd : decode cc pc = .ok (.if_icmp k off, n)) (kk : gK p l e R s m args below meth c H locs cells slots Q ad nL f') : W p l e R s m args below meth c H locs cells slots Q (F0 m pc lsA (st.map (gv ad))) := by
  unfold gPure at h
  dsimp only at h
  split at h
  · rename_i y x r
    cases ht0 : gTgt pc off with
    | none => rw [ht0] at h; cases h
    | some t =>
      rw [ht0] at h
      have ht := gTgt_spec ht0
      cases h
      have k1 := kk lsA hs
      dsimp only at k1
      cases k
      · exact lv_icmp_eq hexec hb hd ht (fun z => by rw [if_pos (show gCmp .eq x y = true from decide_eq_true z)] at k1; exact k1) (fun z => by rw [if_neg (show ¬ gCmp .eq x y = true from fun q => z (of_decide_eq_true q))] at k1; exact k1)
      · exact lv_icmp_ne hexec hb hd ht (fun z => by rw [if_pos (show gCmp .ne x y = true from decide_eq_true z)] at k1; exact k1) (fun z => by rw [if_neg (show ¬ gCmp .ne x y = true from fun q => of_decide_eq_true q z)] at k1; exact k1)
      · exact lv_icmp_lt hexec hb hd ht (fun z => by rw [if_pos (show gCmp .lt x y = true from decide_eq_true z)] at k1; exact k1) (fun z => by rw [if_neg (show ¬ gCmp .lt x y = true from fun q => z (of_decide_eq_true q))] at k1; exact k1)
      · exact lv_icmp_ge hexec hb hd ht (fun z => by rw [if_pos (show gCmp .ge x y = true from decide_eq_true z)] at k1; exact k1) (fun z => by rw [if_neg (show ¬ gCmp .ge x y = true from fun q => z (of_decide_eq_true q))] at k1; exact k1)
      · exact lv_icmp_gt hexec hb hd ht (fun z => by rw [if_pos (show gCmp .gt x y = true from decide_eq_true z)] at k1; exact k1) (fun z => by rw [if_neg (show ¬ gCmp .gt x y = true from fun q => z (of_decide_eq_true q))] at k1; exact k1)
      · exact lv_icmp_le hexec hb hd ht (fun z => by rw [if_pos (show gCmp .le x y = true from decide_eq_true z)] at k1; exact k1) (fun z => by rw [if_neg (show ¬ gCmp .le x y = true from fun q => z (of_decide_eq_true q))] at k1; exact k1)
  · cases h
theorem gIf_ok (hexec : p.tables.exec = Jvm.exec) (hb : c.code = cc) {k : ClassFile.Cond} {off : Int} (hs : gHas ad lsA nL ls ll) (h : gPure (.ifCond k off) pc ls ll st = some (n, f')) (hd : decode cc pc = .ok (.ifCond k off, n)) (kk : gK p l e R s m args below meth c H locs cells slots Q ad nL f') : W p l e R s m args below meth c H locs cells slots Q (F0 m pc lsA (st.map (gv ad))) := by
  unfold gPure at h
  dsimp only at h
  split at h
  · rename_i x r
    cases ht0 : gTgt pc off with
    | none => rw [ht0] at h; cases h
    | some t =>
      rw [ht0] at h
      have ht := gTgt_spec ht0
      cases h
      have k1 := kk lsA hs
      dsimp only at k1
      cases k
      · exact lv_if_eq hexec hb hd ht (fun z => by rw [if_pos (show gCmp .eq x 0 = true from decide_eq_true z)] at k1; exact k1) (fun z => by rw [if_neg (show ¬ gCmp .eq x 0 = true from fun q => z (of_decide_eq_true q))] at k1; exact k1)
      · exact lv_if_ne hexec hb hd ht (fun z => by rw [if_pos (show gCmp .ne x 0 = true from decide_eq_true z)] at k1; exact k1) (fun z => by rw [if_neg (show ¬ gCmp .ne x 0 = true from fun q => of_decide_eq_true q z)] at k1; exact k1)
      · exact lv_if_lt hexec hb hd ht (fun z => by rw [if_pos (show gCmp .lt x 0 = true from decide_eq_true z)] at k1; exact k1) (fun z => by rw [if_neg (show ¬ gCmp .lt x 0 = true from fun q => z (of_decide_eq_true q))] at k1; exact k1)
      · exact lv_if_ge hexec hb hd ht (fun z => by rw [if_pos (show gCmp .ge x 0 = true from decide_eq_true z)] at k1; exact k1) (fun z => by rw [if_neg (show ¬ gCmp .ge x 0 = true from fun q => z (of_decide_eq_true q))] at k1; exact k1)
      · exact lv_if_gt hexec hb hd ht (fun z => by rw [if_pos (show gCmp .gt x 0 = true from decide_eq_true z)] at k1; exact k1) (fun z => by rw [if_neg (show ¬ gCmp .gt x 0 = true from fun q => z (of_decide_eq_true q))] at k1; exact k1)
      · exact lv_if_le hexec hb hd ht (fun z => by rw [if_pos (show gCmp .le x 0 = true from decide_eq_true z)] at k1; exact k1) (fun z => by rw [if_neg (show ¬ gCmp .le x 0 = true from fun q => z (of_decide_eq_true q))] at k1; exact k1)
  · cases h
set_option maxHeartbeats 4000000 in
theorem gPure_ok (hexec : p.tables.exec = Jvm.exec) (hb : c.code = cc) {i : Instr} (hs : gHas ad lsA nL ls ll) (h : gPure i pc ls ll st = some (n, f')) (hd : decode cc pc = .ok (i, n)) (kk : gK p l e R s m args below meth c H locs cells slots Q ad nL f') : W p l e R s m args below meth c H locs cells slots Q (F0 m pc lsA (st.map (gv ad))) := by
  cases i with
  | aconst_null =>
    replace h : some (1, pc + 1, ls, ll, Value.null :: st) = some (n, f') := h
    cases h
    exact lv_null hexec hb hd (kk lsA hs)
  | aload i =>
    refine gLd_ok hexec hb (k := 2) (v := gLdA ls i) hs h kk fun u hu hw => ?_
    obtain ⟨_, -, rfl, -⟩ := gPush_spec (v := gLdA ls i) h
    obtain ⟨e1, e2⟩ := gLdA_spec hu
    have e3 := (hs.2.2.2.1 _ _ e1).1
    rcases e2 with ⟨a, rfl⟩ | rfl
    · exact lv_aload hexec hb hd e3 hw
    · exact lv_aloadN hexec hb hd e3 hw
  | aload_n k =>
    refine gLd_ok hexec hb (k := 1) (v := gLdA ls (k : Nat)) hs h kk fun u hu hw => ?_
    obtain ⟨_, -, rfl, -⟩ := gPush_spec (v := gLdA ls (k : Nat)) h
    obtain ⟨e1, e2⟩ := gLdA_spec hu
    have e3 := (hs.2.2.2.1 _ _ e1).1
    rcases e2 with ⟨a, rfl⟩ | rfl
    · exact lv_aload_n hexec hb hd rfl e3 hw
    · exact lv_aload_nN hexec hb hd rfl e3 hw
  | iload i =>
    refine gLd_ok hexec hb (k := 2) (v := gLdI ls i) hs h kk fun u hu hw => ?_
    obtain ⟨_, -, rfl, -⟩ := gPush_spec (v := gLdI ls i) h
    obtain ⟨x, rfl, e1⟩ := gLdI_spec hu
    exact lv_iload hexec hb hd (hs.2.2.2.1 _ _ e1).1 hw
  | iload_n k =>
    refine gLd_ok hexec hb (k := 1) (v := gLdI ls (k : Nat)) hs h kk fun u hu hw => ?_
    obtain ⟨_, -, rfl, -⟩ := gPush_spec (v := gLdI ls (k : Nat)) h
    obtain ⟨x, rfl, e1⟩ := gLdI_spec hu
    exact lv_iload_n hexec hb hd rfl (hs.2.2.2.1 _ _ e1).1 hw
  | lload i =>
    refine gLd_ok hexec hb (k := 2) (v := gLdL ll i) hs h kk fun u hu hw => ?_
    obtain ⟨_, -, rfl, -⟩ := gPush_spec (v := gLdL ll i) h
    obtain ⟨x, rfl, e1⟩ := gLdL_spec hu
    exact lv_lload hexec hb hd (hs.2.2.2.2 _ _ e1) hw
  | lload_n k =>
    refine gLd_ok hexec hb (k := 1) (v := gLdL ll (k : Nat)) hs h kk fun u hu hw => ?_
    obtain ⟨_, -, rfl, -⟩ := gPush_spec (v := gLdL ll (k : Nat)) h
    obtain ⟨x, rfl, e1⟩ := gLdL_spec hu
    exact lv_lload_n hexec hb hd rfl (hs.2.2.2.2 _ _ e1) hw
  | istore i => exact gStI_ok hexec hb (k := 2) (i := i) hs h kk fun x rest hn hi kr => by subst hn; exact lv_istore hexec hb hd hs.lv hi rfl kr
  | istore_n k => exact gStI_ok hexec hb (k := 1) (i := (k : Nat)) hs h kk fun x rest hn hi kr => by subst hn; exact lv_istore_n hexec hb hd rfl hs.lv hi rfl kr
  | astore i =>
    refine gStA_ok hexec hb (k := 2) (i := i) hs h kk fun v rest hn hi hv kr => ?_
    subst hn
    rcases hv with ⟨a, rfl⟩ | rfl
    · exact lv_astore hexec hb hd hs.lv hi rfl kr
    · exact lv_astoreN hexec hb hd hs.lv hi rfl kr
  | astore_n k =>
    refine gStA_ok hexec hb (k := 1) (i := (k : Nat)) hs h kk fun v rest hn hi hv kr => ?_
    subst hn
    rcases hv with ⟨a, rfl⟩ | rfl
    · exact lv_astore_n hexec hb hd rfl hs.lv hi rfl kr
    · exact lv_astore_nN hexec hb hd rfl hs.lv hi rfl kr
  | lstore i => exact gStL_ok hexec hb (k := 2) (i := i) hs h kk fun x rest hn hi kr => by subst hn; exact lv_lstore hexec hb hd hs.lv hi rfl kr
  | lstore_n k => exact gStL_ok hexec hb (k := 1) (i := (k : Nat)) hs h kk fun x rest hn hi kr => by subst hn; exact lv_lstore_n hexec hb hd rfl hs.lv hi rfl kr
  | bipush b =>
    replace h : some (2, pc + 2, ls, ll, Value.int (Int8.ofInt b).toInt32 :: st) = some (n, f') := h
    cases h
    exact lv_bipush hexec hb hd rfl (kk lsA hs)
  | sipush b =>
    replace h : some (3, pc + 3, ls, ll, Value.int (Int16.ofInt b).toInt32 :: st) = some (n, f') := h
    cases h
    exact lv_sipush hexec hb hd rfl (kk lsA hs)
  | iconst b =>
    replace h : some (1, pc + 1, ls, ll, Value.int (Int32.ofInt b) :: st) = some (n, f') := h
    cases h
    exact lv_iconst hexec hb hd rfl (kk lsA hs)
  | lconst b =>
    replace h : some (1, pc + 1, ls, ll, Value.long (Int64.ofNat (b : Nat)) :: st) = some (n, f') := h
    cases h
    exact lv_lconst hexec hb hd rfl (kk lsA hs)
  | dup =>
    unfold gPure at h
    dsimp only at h
    split at h
    · split at h
      · rename_i v r hv
        cases h
        exact lv_dup hexec hb hd (by rw [gv_cat]; exact hv) (kk lsA hs)
      · cases h
    · cases h
  | dup2 =>
    unfold gPure at h
    dsimp only at h
    split at h
    · split at h
      · rename_i v u r hv
        cases h
        exact lv_dup2_11 hexec hb hd (by rw [gv_cat]; exact hv.1) (by rw [gv_cat]; exact hv.2) (kk lsA hs)
      · cases h
    · cases h
  | pop =>
    unfold gPure at h
    dsimp only at h
    split at h
    · split at h
      · rename_i v r hv
        cases h
        exact lv_pop hexec hb hd (by rw [gv_cat]; exact hv) (kk lsA hs)
      · cases h
    · cases h
  | goto off =>
    obtain ⟨t, ht, rfl, rfl⟩ := gJmp_spec (off := off) h
    exact lv_goto hexec hb hd ht (kk lsA hs)
  | iadd => exact gBin_ok (g := fun x y => x + y) hs h kk fun x y rest hn hw => by subst hn; exact lv_iadd hexec hb hd hw
  | isub => exact gBin_ok (g := fun x y => x - y) hs h kk fun x y rest hn hw => by subst hn; exact lv_isub hexec hb hd hw
  | imul => exact gBin_ok (g := fun x y => x * y) hs h kk fun x y rest hn hw => by subst hn; exact lv_imul hexec hb hd hw
  | iand => exact gBin_ok (g := fun x y => x &&& y) hs h kk fun x y rest hn hw => by subst hn; exact lv_iand hexec hb hd hw
  | ior => exact gBin_ok (g := fun x y => x ||| y) hs h kk fun x y rest hn hw => by subst hn; exact lv_ior hexec hb hd hw
  | ixor => exact gBin_ok (g := fun x y => x ^^^ y) hs h kk fun x y rest hn hw => by subst hn; exact lv_ixor hexec hb hd hw
  | ishl => exact gBin_ok (g := fun x y => x <<< (y &&& 31)) hs h kk fun x y rest hn hw => by subst hn; exact lv_ishl hexec hb hd hw
  | ishr => exact gBin_ok (g := fun x y => x >>> (y &&& 31)) hs h kk fun x y rest hn hw => by subst hn; exact lv_ishr hexec hb hd hw
  | iushr => exact gBin_ok (g := fun x y => (x.toUInt32 >>> (y.toUInt32 &&& Int32.toUInt32 31)).toInt32) hs h kk fun x y rest hn hw => by subst hn; exact lv_iushr hexec hb hd rfl hw
  | idiv => exact gBin0_ok (g := fun x y => x / y) hs h kk fun x y rest hn hy hw => by subst hn; exact lv_idiv hexec hb hd hy hw
  | irem => exact gBin0_ok (g := fun x y => x - x / y * y) hs h kk fun x y rest hn hy hw => by subst hn; exact lv_irem hexec hb hd hy hw
  | ladd => exact gBinL_ok (g := fun x y => x + y) hs h kk fun x y rest hn hw => by subst hn; exact lv_ladd hexec hb hd hw
  | lmul => exact gBinL_ok (g := fun x y => x * y) hs h kk fun x y rest hn hw => by subst hn; exact lv_lmul hexec hb hd hw
  | lrem => exact gBin0L_ok (g := fun x y => x - x / y * y) hs h kk fun x y rest hn hy hw => by subst hn; exact lv_lrem hexec hb hd hy hw
  | ineg =>
    unfold gPure at h
    dsimp only at h
    split at h
    · cases h
      exact lv_ineg hexec hb hd (kk lsA hs)
    · cases h
  | i2l =>
    unfold gPure at h
    dsimp only at h
    split at h
    · cases h
      exact lv_i2l hexec hb hd rfl (kk lsA hs)
    · cases h
  | l2i =>
    unfold gPure at h
    dsimp only at h
    split at h
    · cases h
      exact lv_l2i hexec hb hd rfl (kk lsA hs)
    · cases h
  | if_icmp k off => exact gIcmp_ok hexec hb hs h hd kk
  | ifCond k off => exact gIf_ok hexec hb hs h hd kk
  | ifnull off =>
    unfold gPure at h
    dsimp only at h
    split at h
    · cases h
      exact lv_ifnull hexec hb hd (kk lsA hs)
    · obtain ⟨t, ht, rfl, rfl⟩ := gJmp_spec (off := off) h
      exact lv_ifnullN hexec hb hd ht (kk lsA hs)
    · cases h
  | ifnonnull off =>
    unfold gPure at h
    dsimp only at h
    split at h
    · obtain ⟨t, ht, rfl, rfl⟩ := gJmp_spec (off := off) h
      exact lv_ifnonnull hexec hb hd ht (kk lsA hs)
    · cases h
      exact lv_ifnonnullN hexec hb hd (kk lsA hs)
    · cases h
  | iinc i k =>
    unfold gPure at h
    dsimp only at h
    split at h
    · rename_i x hx
      cases h
      obtain ⟨q, hq⟩ := List.getElem?_of_mem (gPr_in (ad := ad) (ll := ll) hx)
      exact lv_iinc hexec hb hd hs.lv hq rfl (by rw [← hs.2.2.1]; exact (List.getElem?_eq_some_iff.mp hx).1) rfl fun ls' h' => kk ls' (hs.st1 (v := .int (x + Int32.ofInt k)) rfl h')
    · cases h
  | _ => exact absurd h (fun h => gNo h)
theorem gSw_ok (hexec : p.tables.exec = Jvm.exec) (hb : c.code = cc) {i : Instr} (hs : gHas ad lsA nL ls ll) (h : gSw i pc ls ll st = some f') (hd : decode cc pc = .ok (i, n)) (kk : gK p l e R s m args below meth c H locs cells slots Q ad nL f') : W p l e R s m args below meth c H locs cells slots Q (F0 m pc lsA (st.map (gv ad))) := by
  unfold gSw at h
  split at h
  · rename_i d lo hi offs
    split at h
    · rename_i x r
      split at h
      · rename_i hx
        cases ht : gTgt pc d with
        | none => rw [ht] at h; cases h
        | some t =>
          rw [ht] at h
          cases h
          exact lv_tableOut hexec hb hd hx (gTgt_spec ht) (kk lsA hs)
      · rename_i hx
        rw [not_or] at hx
        cases ho : offs[(x.toInt - lo).toNat]? with
        | none => rw [ho] at h; cases h
        | some off =>
          rw [ho] at h
          replace h : (gTgt pc off).bind (fun t => some (t, ls, ll, r)) = some f' := h
          cases ht : gTgt pc off with
          | none => rw [ht] at h; cases h
          | some t =>
            rw [ht] at h
            cases h
            exact lv_tableIn hexec hb hd hx.1 hx.2 ho (gTgt_spec ht) (kk lsA hs)
    · cases h
  · rename_i d ps
    split at h
    · rename_i x r
      split at h
      · rename_i hp
        cases ht : gTgt pc (Op.lookupswitch.offset ps.toList d x.toInt) with
        | none => rw [ht] at h; cases h
        | some t =>
          rw [ht] at h
          cases h
          exact lv_lookup hexec hb hd hp rfl (gTgt_spec ht) (kk lsA hs)
      · cases h
    · cases h
  · cases h
end GP
