/-! what touches cells -/
def gLe (w w' : gWd) : Prop := w.2.1 ≤ w'.2.1 ∧ w.2.2 ≤ w'.2.2
theorem gLe.rfl {w : gWd} : gLe w w := ⟨Nat.le_refl _, Nat.le_refl _⟩
theorem gLe.trans {a b c : gWd} (h : gLe a b) (h' : gLe b c) : gLe a c := ⟨Nat.le_trans h.1 h'.1, Nat.le_trans h.2 h'.2⟩
theorem gLe.wr {w : gWd} {k : Nat} {c : gCell} : gLe w (wr w k c) := ⟨Nat.le_refl _, Nat.le_refl _⟩
theorem gLe.al {w : gWd} {c : gCell} {k : Nat} : gLe w (al w c k) := ⟨Nat.le_succ _, Nat.le_add_right _ _⟩
def gLeO (w : gWd) (o : (gFr × gWd) ⊕ gRes) : Prop := match o with
  | .inl q => gLe w q.2
  | .inr q => gLe w q.2
def gMono (cal : Nat → List Value → gWd → Option gRes) : Prop := ∀ (t : Nat) (as : List Value) (w : gWd) (q : gRes), cal t as w = some q → gLe w q.2
theorem gNx_le {n pc k : Nat} {ls : gLs} {ll : gLl} {st : List Value} {w w1 : gWd} {o : (gFr × gWd) ⊕ gRes} (h : gNx n pc ls ll st w1 = some (k, o)) (hw : gLe w w1) : gLeO w o := by
  unfold gNx at h
  cases h
  exact hw
theorem gBind {α β : Type} {x : Option α} {f : α → Option β} {b : β} (h : x.bind f = some b) : ∃ a, x = some a ∧ f a = some b := by
  cases x with
  | none => cases h
  | some a => exact ⟨a, rfl, h⟩
theorem gBack_spec {pc k : Nat} {ls : gLs} {ll : gLl} {rest : List Value} {q : Option gRes} {o : (gFr × gWd) ⊕ gRes} (h : gBack pc ls ll rest q = some (k, o)) : ∃ u, q = some u ∧ k = 3 ∧ o = .inl ((pc + 3, ls, ll, u.1.toList ++ rest), u.2) := by
  unfold gBack at h
  obtain ⟨u, e1, e2⟩ := gBind h
  cases e2
  exact ⟨u, e1, rfl, rfl⟩
theorem gBack_le {cal : Nat → List Value → gWd → Option gRes} (hm : gMono cal) {pc k t : Nat} {as : List Value} {ls : gLs} {ll : gLl} {rest : List Value} {w : gWd} {o : (gFr × gWd) ⊕ gRes} (h : gBack pc ls ll rest (cal t as w) = some (k, o)) : gLeO w o := by
  obtain ⟨u, e1, -, rfl⟩ := gBack_spec h
  exact hm _ _ _ _ e1
theorem gCall_le {cal : Nat → List Value → gWd → Option gRes} {nat : gNat} (hm : gMono cal) {kd t pc k : Nat} {ls : gLs} {ll : gLl} {st : List Value} {w : gWd} {o : (gFr × gWd) ⊕ gRes} (h : gCall cal nat kd t pc ls ll st w = some (k, o)) : gLeO w o := by
  unfold gCall at h
  split at h
  all_goals (repeat' (split at h))
  all_goals first
    | (cases h; done)
    | exact gBack_le hm h
    | exact gNx_le h gLe.rfl
    | (obtain ⟨v, -, h⟩ := gBind h; exact gNx_le h gLe.rfl)
theorem gInit_le {cal : Nat → List Value → gWd → Option gRes} {nat : gNat} (hm : gMono cal) {kd t pc k : Nat} {ls : gLs} {ll : gLl} {st : List Value} {w : gWd} {o : (gFr × gWd) ⊕ gRes} (h : gInit cal nat kd t pc ls ll st w = some (k, o)) : gLeO w o := by
  unfold gInit at h
  split at h
  all_goals (repeat' (split at h))
  all_goals first
    | (cases h; done)
    | exact gBack_le hm h
    | exact gNx_le h gLe.rfl
    | (obtain ⟨u, -, h⟩ := gBind h
       split at h
       · rename_i hc
         obtain ⟨u', e1, -, rfl⟩ := gBack_spec h
         cases e1
         exact hc
       · cases h)
set_option maxHeartbeats 2000000 in
theorem gHeap_le {cal : Nat → List Value → gWd → Option gRes} {nat : gNat} (hm : gMono cal) {j pc k : Nat} {i : Instr} {ls : gLs} {ll : gLl} {st : List Value} {w : gWd} {o : (gFr × gWd) ⊕ gRes} (h : gHeap cal nat j i pc ls ll st w = some (k, o)) : gLeO w o := by
  unfold gHeap at h
  split at h
  all_goals (repeat' (split at h))
  all_goals first
    | (cases h; done)
    | exact gCall_le hm h
    | exact gInit_le hm h
    | exact gNx_le h gLe.rfl
    | exact gNx_le h gLe.wr
    | exact gNx_le h gLe.al
    | (obtain ⟨v, -, h⟩ := gBind h; exact gNx_le h gLe.rfl)
    | (cases h; exact gLe.rfl)
theorem gStep_le {cal : Nat → List Value → gWd → Option gRes} {nat : gNat} (hm : gMono cal) {j : Nat} {f : gFr} {w : gWd} {o : (gFr × gWd) ⊕ gRes} (h : gStep cal nat j f w = some o) : gLeO w o := by
  unfold gStep at h
  split at h
  · split at h
    · split at h
      · cases h
        exact gLe.rfl
      · cases h
    · split at h
      · cases h
        exact gLe.rfl
      · split at h
        · rename_i hh
          split at h
          · cases h
            exact gHeap_le hm hh
          · cases h
        · cases h
  · cases h
theorem gRun_le {cal : Nat → List Value → gWd → Option gRes} {nat : gNat} (hm : gMono cal) {j : Nat} : ∀ (k : Nat) (f : gFr) (w : gWd) (q : gRes), gRun cal nat j k f w = some q → gLe w q.2 := by
  intro k
  induction k with
  | zero => intro f w q h; cases h
  | succ k ih =>
    intro f w q h
    unfold gRun at h
    split at h
    · cases h
    · rename_i hs
      cases h
      exact gStep_le hm hs
    · rename_i hs
      exact (gStep_le hm hs).trans (ih _ _ _ h)
theorem gIte {α : Type} {c : Prop} [Decidable c] {x : Option α} {q : α} (h : (if c then x else none) = some q) : c ∧ x = some q := by
  by_cases hc : c
  · rw [if_pos hc] at h; exact ⟨hc, h⟩
  · rw [if_neg hc] at h; cases h
theorem gC_mono (nat : gNat) : ∀ d, gMono (gC nat d) := by
  intro d
  induction d with
  | zero => intro t as w q h; cases h
  | succ d ih =>
    intro t as w q h
    unfold gC at h
    obtain ⟨-, h⟩ := gIte h
    obtain ⟨k, hk⟩ := gL_iff.mp h
    exact gRun_le ih k _ _ _ hk
/-! contracts -/
def gFresh (ad : Nat → Nat) (w : gWd) (sz : Nat) : Prop := ∀ k, w.2.1 ≤ k → k < gSTR → ad k = sz + (k - w.2.1)
abbrev gTys (cI cR : ClassId) : List (ClassId × FieldType) := [(cI, .int), (cR, .object RX7)]
def gE (D : va_G) (cI cR : ClassId) (U : State) : Prop := va_K D gCl (gTys cI cR) U ∧ (∀ w ∈ gNW, va_Nw w U) ∧ va_AO RX7 U
set_option maxRecDepth 100000 in
theorem gNW_kind : ∀ w ∈ gNW, ∃ (a : String) (i : Nat) (x : MethodName) (h : String), w = .methodLinkNest a i x h := List.forall_mem_cons.mpr ⟨⟨_, _, _, _, rfl⟩, List.forall_mem_cons.mpr ⟨⟨_, _, _, _, rfl⟩, List.forall_mem_cons.mpr ⟨⟨_, _, _, _, rfl⟩, List.forall_mem_cons.mpr ⟨⟨_, _, _, _, rfl⟩, List.forall_mem_cons.mpr ⟨⟨_, _, _, _, rfl⟩, List.forall_mem_cons.mpr ⟨⟨_, _, _, _, rfl⟩, List.forall_mem_cons.mpr ⟨⟨_, _, _, _, rfl⟩, List.forall_mem_cons.mpr ⟨⟨_, _, _, _, rfl⟩, List.forall_mem_cons.mpr ⟨⟨_, _, _, _, rfl⟩, List.forall_mem_cons.mpr ⟨⟨_, _, _, _, rfl⟩, List.forall_mem_cons.mpr ⟨⟨_, _, _, _, rfl⟩, List.forall_mem_cons.mpr ⟨⟨_, _, _, _, rfl⟩, List.forall_mem_cons.mpr ⟨⟨_, _, _, _, rfl⟩, List.forall_mem_cons.mpr ⟨⟨_, _, _, _, rfl⟩, List.forall_mem_cons.mpr ⟨⟨_, _, _, _, rfl⟩, List.forall_mem_cons.mpr ⟨⟨_, _, _, _, rfl⟩, List.forall_mem_cons.mpr ⟨⟨_, _, _, _, rfl⟩, List.forall_mem_cons.mpr ⟨⟨_, _, _, _, rfl⟩, List.forall_mem_cons.mpr ⟨⟨_, _, _, _, rfl⟩, List.forall_mem_cons.mpr ⟨⟨_, _, _, _, rfl⟩, List.forall_mem_cons.mpr ⟨⟨_, _, _, _, rfl⟩, List.forall_mem_cons.mpr ⟨⟨_, _, _, _, rfl⟩, List.forall_mem_cons.mpr ⟨⟨_, _, _, _, rfl⟩, List.forall_mem_cons.mpr ⟨⟨_, _, _, _, rfl⟩, List.forall_mem_cons.mpr ⟨⟨_, _, _, _, rfl⟩, List.forall_mem_cons.mpr ⟨⟨_, _, _, _, rfl⟩, List.forall_mem_cons.mpr ⟨⟨_, _, _, _, rfl⟩, List.forall_mem_cons.mpr ⟨⟨_, _, _, _, rfl⟩, List.forall_mem_cons.mpr ⟨⟨_, _, _, _, rfl⟩, List.forall_mem_cons.mpr ⟨⟨_, _, _, _, rfl⟩, List.forall_mem_cons.mpr ⟨⟨_, _, _, _, rfl⟩, fun _ h => absurd h List.not_mem_nil⟩⟩⟩⟩⟩⟩⟩⟩⟩⟩⟩⟩⟩⟩⟩⟩⟩⟩⟩⟩⟩⟩⟩⟩⟩⟩⟩⟩⟩⟩⟩
theorem gE.warm {D : va_G} {cI cR : ClassId} {s U : State} (h : gE D cI cR s) (hW : s.WarmedH U.vm) : gE D cI cR U := by
  refine ⟨va_K.moved hW.alike h.1, fun w hw => ?_, va_AO.moved hW.alike h.2.2⟩
  obtain ⟨a, i, x, hh, rfl⟩ := gNW_kind w hw
  exact va_Nw.warmM hW (h.2.1 _ hw)
theorem gE.same {D : va_G} {cI cR : ClassId} {s U : State} (h : gE D cI cR s) (hv : s.vm = U.vm) : gE D cI cR U := by
  refine ⟨va_K.moved (hv ▸ Vm.Alike.refl s.vm) h.1, fun w hw => ?_, va_AO.moved (hv ▸ Vm.Alike.refl s.vm) h.2.2⟩
  obtain ⟨a, i, x, hh, rfl⟩ := gNW_kind w hw
  exact va_Nw.same rfl hv (h.2.1 _ hw)
def gPreB (D : va_G) (cI cR : ClassId) (ad : Nat → Nat) (w : gWd) (sz : Nat) (U : State) : Prop := U.heap.size = sz ∧ va_P D gCl (gws cI cR ad w) U.heap ∧ gE D cI cR U ∧ va_D (fun _ => True) (gws cI cR ad w)
def gPost (D : va_G) (cI cR : ClassId) (ad : Nat → Nat) (q : gRes) (A : Nat → Prop) : Array Value → State → Outcome → State → Prop := fun _ st oc t => oc = .returned (q.1.map (gv ad)) ∧ va_P D gCl (gws cI cR ad q.2) t.heap ∧ va_D A (gws cI cR ad q.2) ∧ gFresh ad q.2 t.heap.size ∧ gOK q.2 ∧ va_F A st t
def gWs (j : Nat) : List Cond := Cond.code (gName j) (gCode j) (gMax j) (gRet j) :: gTB
def gRm (d mc ms : Nat) : Room := { frames := d, cells := mc, slots := ms, locals := 100 * d }
def gMet (l : Launch) (D : va_G) (cI cR : ClassId) (d j : Nat) (as : List Value) (w : gWd) (q : gRes) : Prop := ∀ (ad : Nat → Nat) (sz : Nat), gFresh ad w sz → gOK w →
  Met l (gName j) (gWs j) (gRm d (q.2.2.1 - w.2.1) (q.2.2.2 - w.2.2)) (va_Pc (as.map (gv ad)) (gPreB D cI cR ad w sz)) (gPost D cI cR ad q (va_A (gws cI cR ad w) sz)) (q.2.2.1 - w.2.1) (q.2.2.2 - w.2.2) (va_A (gws cI cR ad w) sz)
theorem gGood {ws : List Cond} (h : ∀ w ∈ ws, w ∈ gTB) : GoodIn gTB ws := fun w hw => ⟨h w hw, good_of_word (List.mem_filter.mp (h w hw)).2⟩
set_option maxRecDepth 100000 in
theorem gML_len : gML.length = 193 := by decide +kernel
theorem gME_at {j : Nat} (h : j < 193) : gME j = gML.getD j gM0 := by
  unfold gME
  rw [if_neg (by omega)]
theorem gMok_at {j : Nat} (h' : j < 193) : gMok (gME j) := by
  rw [gME_at h']
  have h : j < gML.length := by rw [gML_len]; exact h'
  rw [List.getD_eq_getElem?_getD, List.getElem?_eq_getElem h]
  exact gMok_all _ (List.getElem_mem h)
theorem gWs_in {j : Nat} (h : j < 193) : ∀ w ∈ gWs j, w ∈ gTB := by
  intro w hw
  rcases List.mem_cons.mp hw with rfl | hw
  · exact (gMok_at h).1
  · exact hw
theorem gFind_mem {l : List (Nat × Nat × Nat)} {k : Nat} {q : Nat × Nat} (h : gFind l k = some q) : (k, q) ∈ l := by
  unfold gFind at h
  cases e : l.find? (fun q => q.1 == k) with
  | none => rw [e] at h; cases h
  | some x =>
    rw [e] at h
    cases h
    have h1 := List.find?_some e
    have h2 := List.mem_of_find?_eq_some e
    have : x.1 = k := eq_of_beq h1
    subst this
    exact h2
theorem gFind2_mem {l : List (Nat × Nat)} {k : Nat} {q : Nat} (h : gFind2 l k = some q) : (k, q) ∈ l := by
  unfold gFind2 at h
  cases e : l.find? (fun q => q.1 == k) with
  | none => rw [e] at h; cases h
  | some x =>
    rw [e] at h
    cases h
    have h1 := List.find?_some e
    have h2 := List.mem_of_find?_eq_some e
    have : x.1 = k := eq_of_beq h1
    subst this
    exact h2
