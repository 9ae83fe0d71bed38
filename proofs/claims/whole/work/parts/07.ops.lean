/-! what holds inside a method; then each instruction on cells -/
def gCtx (p : Program) (s : State) (m : MethodId) (args : Array Value) (meth : Method) (c : Code) (D : va_G) (cI cR : ClassId) (j : Nat) (A : Nat → Prop) : Prop := p.tables.exec = Jvm.exec ∧ c.code = gCode j ∧ c.maxLocals = gMax j ∧ meth.sig.returnType = gRet j ∧ meth.locks = false ∧ ((gName j).name = "<init>" → meth.name = "<init>") ∧ s.vm.findClass (gR (gOwn j)) = some m.cls ∧ (∀ w ∈ gTB, w.before args s = true) ∧ gE D cI cR s ∧ (∀ q : Nat, s.heap.size ≤ q → A q)
def gInv (D : va_G) (cI cR : ClassId) (ad : Nat → Nat) (A : Nat → Prop) (s : State) (w : gWd) (H : Heap) (locs : List Loc) (cells slots n0 s0 : Nat) : Prop := gOK w ∧ va_P D gCl (gws cI cR ad w) H ∧ va_D A (gws cI cR ad w) ∧ va_S A s.heap H locs ∧ gFresh ad w H.size ∧ cells + n0 = w.2.1 ∧ slots + s0 = w.2.2
theorem gInv.put {D : va_G} {cI cR : ClassId} {ad : Nat → Nat} {A : Nat → Prop} {s : State} {w : gWd} {H H1 : Heap} {locs : List Loc} {cells slots n0 s0 a k : Nat} {c' : gCell} (h : gInv D cI cR ad A s w H locs cells slots n0 s0) (hc : w.1 a ≠ none) (hc' : c' ≠ none) (he : va_at D gCl (ad a, ge cI cR ad c') H1) (z : H1.size = H.size) (oq : ∀ q : Nat, q ≠ ad a → H1[q]? = H[q]?) : gInv D cI cR ad A s (wr w a c') H1 (locs ++ [⟨ad a, k⟩]) cells slots n0 s0 := by
  obtain ⟨h1, h2, h3, h4, h5, h6, h7⟩ := h
  have hlt : a < w.2.1 := (h1 a).mp hc
  have hat := gws_at (cI := cI) (cR := cR) (ad := ad) hlt
  refine ⟨gOK_wr h1 hc hc', ?_, ?_, h4.put z oq (h3.2 a _ hat), fun k hk hk2 => ?_, h6, h7⟩
  · rw [← gws_set]
    exact h2.set h3 hat he oq
  · rw [← gws_set]
    exact h3.set hat
  · rw [z]
    exact h5 k hk hk2
theorem gInv.push {D : va_G} {cI cR : ClassId} {ad : Nat → Nat} {A : Nat → Prop} {s : State} {w : gWd} {H H1 : Heap} {locs : List Loc} {cells slots n0 s0 k : Nat} {c' : gCell} (h : gInv D cI cR ad A s w H locs cells slots n0 s0) (hc' : c' ≠ none) (hl : w.2.1 < gSTR) (hA : ∀ q : Nat, s.heap.size ≤ q → A q) (he : va_at D gCl (H.size, ge cI cR ad c') H1) (z : H1.size = H.size + 1) (o1 : ∀ q : Nat, q < H.size → H1[q]? = H[q]?) : gInv D cI cR ad A s (al w c' k) H1 locs (cells + 1) (slots + k) n0 s0 := by
  obtain ⟨h1, h2, h3, h4, h5, h6, h7⟩ := h
  have ha : ad w.2.1 = H.size := by
    have := h5 w.2.1 (Nat.le_refl _) hl
    rw [this]
    omega
  have hk : ∀ (k : Nat) (x : Nat × va_E), (gws cI cR ad w)[k]? = some x → H1[x.1]? = H[x.1]? := fun k x hx => o1 x.1 ((h2 k x hx).lt)
  refine ⟨gOK_al h1 hc', ?_, ?_, ⟨Nat.le_trans h4.1 (by omega), fun x g1 g2 => (o1 x (Nat.lt_of_lt_of_le g1 h4.1)).trans (h4.2.1 x g1 g2), h4.2.2⟩, fun i hi hi2 => ?_, ?_, ?_⟩
  · rw [← gws_al]
    refine (h2.kept hk).app (fun k x hx => ?_)
    have hz : k < 1 := (List.getElem?_eq_some_iff.mp hx).1
    rw [show k = 0 by omega] at hx
    cases hx
    rw [ha]
    exact he
  · rw [← gws_al]
    exact h3.push h2 ha (by rw [ha]; exact hA _ h4.1)
  · have e1 : (al w c' k).2.1 = w.2.1 + 1 := rfl
    rw [e1] at hi ⊢
    rw [z, h5 i (by omega) hi2]
    omega
  · show cells + 1 + n0 = w.2.1 + 1
    omega
  · show slots + k + s0 = w.2.2 + k
    omega
section GH
variable {p : Program} {l : Launch} {e : Env} {R : Room} {s : State} {m : MethodId} {args : Array Value} {below : List Frame} {meth : Method} {c : Code} {H : Heap} {locs : List Loc} {cells slots : Nat} {Q : State → Prop}
variable {D : va_G} {cI cR : ClassId} {ad : Nat → Nat} {A : Nat → Prop} {n0 s0 j : Nat} {w : gWd} {pc n : Nat} {lsA : Array Slot} {ls : gLs} {ll : gLl} {st : List Value}
def gKH (p : Program) (l : Launch) (e : Env) (R : Room) (s : State) (m : MethodId) (args : Array Value) (below : List Frame) (meth : Method) (c : Code) (Q : State → Prop) (D : va_G) (cI cR : ClassId) (ad : Nat → Nat) (A : Nat → Prop) (n0 s0 j : Nat) (f : gFr) (w : gWd) : Prop := ∀ (lsB : Array Slot) (H1 : Heap) (locs1 : List Loc) (cells1 slots1 : Nat), gHas ad lsB (gMax j) f.2.1 f.2.2.1 → gInv D cI cR ad A s w H1 locs1 cells1 slots1 n0 s0 → W p l e R s m args below meth c H1 locs1 cells1 slots1 Q (F0 m f.1 lsB (f.2.2.2.map (gv ad)))
theorem gNx_spec {k : Nat} {w1 : gWd} {o : (gFr × gWd) ⊕ gRes} (h : gNx k pc ls ll st w1 = some (n, o)) : n = k ∧ o = .inl ((pc + k, ls, ll, st), w1) := by
  unfold gNx at h
  cases h
  exact ⟨rfl, rfl⟩
theorem gFok_at {o ix ci k : Nat} (h : gFind (gFS o) ix = some (ci, k)) : gFok o (ix, ci, k) := gFok_all o _ (gFind_mem h)
theorem gGet_ok (C : gCtx p s m args meth c D cI cR j A) (I : gInv D cI cR ad A s w H locs cells slots n0 s0) (hs : gHas ad lsA (gMax j) ls ll) {ix ci k a : Nat} {fs : List Value} {v : Value} {r : List Value} (hf : gFind (gFS (gOwn j)) ix = some (ci, k)) (hw : rd w a = oC ci fs) (hv : fs[k]? = some v) (hd : decode (gCode j) pc = .ok (.getfield ix, 3)) (kk : gKH p l e R s m args below meth c Q D cI cR ad A n0 s0 j (pc + 3, ls, ll, v :: r) w) : W p l e R s m args below meth c H locs cells slots Q (F0 m pc lsA (.ref (ad a) :: r.map (gv ad))) := by
  obtain ⟨hx, hb, hml, hr, hlk, hnm, hown, hts, hE, hA⟩ := C
  obtain ⟨h1, h2, h3, h4, h5, h6, h7⟩ := id I
  obtain ⟨f1, f2, f3⟩ := gFok_at hf
  obtain ⟨g1, g2, g3, g4, g5, g6⟩ := gKok_all ci f3
  have hlt : a < w.2.1 := gOK_lt h1 hw
  refine va_get (D := D) (ci := ci) (v := gv ad v) (fs := fs.map (gv ad)) (C := gR ci) (T := gT ci) (N := gN ci) hx hb hts g1 hown hE.1 h2 a ?_ g5 k f2 (hts _ f1) (fun x hx => by rw [g4 k f2] at hx; exact hx) (by rw [List.getElem?_map, hv]; rfl) hd (kk lsA H locs cells slots hs I)
  rw [gws_at hlt, show w.1 a = oC ci fs from hw]
  rfl
theorem gNar (ad : Nat → Nat) (ty : FieldType) (v : Value) (h : narrow ty v = v) : narrow ty (gv ad v) = gv ad v := by
  cases v <;> first | exact h | (cases ty <;> rfl)
theorem gFit (ad : Nat → Nat) (ty : FieldType) (v : Value) (h : fits ty v = true) : fits ty (gv ad v) = true := by
  cases v <;> first | exact h | (cases ty <;> first | rfl | exact h)
theorem gPut_ok (C : gCtx p s m args meth c D cI cR j A) (I : gInv D cI cR ad A s w H locs cells slots n0 s0) (hs : gHas ad lsA (gMax j) ls ll) {ix ci k a : Nat} {fs : List Value} {v : Value} {r : List Value} (hf : gFind (gFS (gOwn j)) ix = some (ci, k)) (hw : rd w a = oC ci fs) (hk : k < fs.length ∧ narrow (gTy ci k) v = v ∧ fits (gTy ci k) v = true ∧ ((gT ci k).2.2.2 = true → (gName j).name = "<init>" ∧ gOwn j = ci)) (hd : decode (gCode j) pc = .ok (.putfield ix, 3)) (kk : gKH p l e R s m args below meth c Q D cI cR ad A n0 s0 j (pc + 3, ls, ll, r) (wr w a (oC ci (fs.set k v)))) : W p l e R s m args below meth c H locs cells slots Q (F0 m pc lsA (gv ad v :: .ref (ad a) :: r.map (gv ad))) := by
  obtain ⟨hx, hb, hml, hr, hlk, hnm, hown, hts, hE, hA⟩ := C
  obtain ⟨h1, h2, h3, h4, h5, h6, h7⟩ := id I
  obtain ⟨f1, f2, f3⟩ := gFok_at hf
  obtain ⟨g1, g2, g3, g4, g5, g6⟩ := gKok_all ci f3
  obtain ⟨k1, k2, k3, k4⟩ := hk
  have hw' : w.1 a = oC ci fs := hw
  have hlt : a < w.2.1 := gOK_lt h1 hw
  have hat : (gws cI cR ad w)[a]? = some (ad a, .inr (ci, fs.map (gv ad))) := by
    rw [gws_at hlt, hw']
    rfl
  obtain ⟨q', h1q, cell, q1, q2, q3, q4⟩ := h2 a _ hat
  have hq : q' = (gR ci, gT ci, gN ci) := Option.some.inj (h1q.symm.trans g5)
  subst hq
  have hap := va_apart (own := gR (gOwn j)) hts g1 (gTy ci) g2 g3 hE.1 g5
  obtain ⟨hS, hfc, kC, hkC, hkind⟩ := hE.1.1 ci _ g5
  obtain ⟨cf, kf, fi, f, hi, hsl⟩ := hS k f2
  have hst := (u_facts hfc hkC (u_lays hts g1 f2) hi).1
  have hi' : s.fieldFound? (gR ci) (gT ci k).2.1 (gT ci k).2.2.1 = some (cf, kf, fi, f) := by rw [g4 k f2] at hi; exact hi
  have hlay := hts _ (g1 _ (u_in_lay f2))
  have fin : ∀ H' : Heap, H'[ad a]? = some (cell.setSlot f.slot (gv ad v)) → H'.size = H.size → (∀ q, q ≠ ad a → H'[q]? = H[q]?) → W p l e R s m args below meth c H' (locs ++ [⟨ad a, f.slot⟩]) cells slots Q (F0 m (pc + 3) lsA (r.map (gv ad))) := by
    intro H' e1 e2 e3
    refine kk lsA H' _ cells slots hs (I.put (by rw [hw']; exact fun h => by cases h) (fun h => by cases h) ?_ e2 e3)
    rw [hsl] at e1
    refine ⟨_, g5, ?_⟩
    show t_OB (ad a) (D.1 ci) (gN ci) (D.2 ci) H' (vp_V ((fs.set k v).map (gv ad)))
    rw [List.map_set]
    exact t_OB.to (V := updV (vp_V (fs.map (gv ad))) k (gv ad v)) ⟨_, e1, q2, q3, t_set q4 hap f2 (gv ad v)⟩ (fun i _ => vp_updV_set (by rw [List.length_map]; exact k1) (gv ad v) i)
  by_cases hfin : (gT ci k).2.2.2 = true
  · obtain ⟨n1, n2⟩ := k4 hfin
    unfold u_lay at hlay
    rw [if_pos hfin] at hlay
    have hcf : m.cls = cf := by
      obtain ⟨_, _, c', _, _, _, -, -, hf', -, -, -, hown2, -⟩ := Cond.laysFinal_spec hlay
      have e1 : c' = cf := by have := hi.symm.trans hf'; simp at this; exact this.1.symm
      rw [g4 k f2, ← n2] at hown2
      rw [← e1]; exact Option.some.inj (hown.symm.trans hown2)
    have h6 := u_fits hfc hkC hkind (Or.inr hlay) hi (g2 k f2) (gNar ad _ v k2) (gFit ad _ v k3)
    exact W.putFinK hx hb hown (hts _ f1) hi' hst hcf (hnm n1) (by rw [q2]; exact h6) q1 q3 (by rw [hsl]; exact k2_hasslot (q4 k f2)) rfl rfl hd fin
  · unfold u_lay at hlay
    rw [if_neg hfin] at hlay
    have h6 := u_store hfc hkC hkind hlay hi (g2 k f2) (gNar ad _ v k2) (gFit ad _ v k3)
    exact W.putK hx hb (f := f) ⟨hown, hts _ f1, ⟨_, _, _, hi'⟩, hst⟩ (by rw [q2]; exact h6) q1 q3 (by rw [hsl]; exact k2_hasslot (q4 k f2)) rfl rfl hd fin
theorem gLen_ok (C : gCtx p s m args meth c D cI cR j A) (I : gInv D cI cR ad A s w H locs cells slots n0 s0) (hs : gHas ad lsA (gMax j) ls ll) {a N : Nat} {x : (Nat → Int32) ⊕ (Nat → Option Nat)} {r : List Value} (hw : rd w a = some (.inr (N, x))) (hd : decode (gCode j) pc = .ok (.arraylength, 1)) (kk : gKH p l e R s m args below meth c Q D cI cR ad A n0 s0 j (pc + 1, ls, ll, .int (Int32.ofNat N) :: r) w) : W p l e R s m args below meth c H locs cells slots Q (F0 m pc lsA (.ref (ad a) :: r.map (gv ad))) := by
  obtain ⟨hx, hb, hml, hr, hlk, hnm, hown, hts, hE, hA⟩ := C
  obtain ⟨h1, h2, h3, h4, h5, h6, h7⟩ := id I
  have hw' : w.1 a = some (.inr (N, x)) := hw
  have hat := gws_at (cI := cI) (cR := cR) (ad := ad) (gOK_lt h1 hw')
  rw [hw'] at hat
  cases x with
  | inl f => exact va_alen hx hb hE.1 h2 a 0 (x := (N, .inl f)) hat rfl rfl hd (kk lsA H locs cells slots hs I)
  | inr f => exact va_alen hx hb hE.1 h2 a 1 (x := (N, .inr (.inr (.inr (.inr (fun i => (f i).map ad)))))) hat rfl rfl hd (kk lsA H locs cells slots hs I)
theorem gIald_ok (C : gCtx p s m args meth c D cI cR j A) (I : gInv D cI cR ad A s w H locs cells slots n0 s0) (hs : gHas ad lsA (gMax j) ls ll) {a N : Nat} {i : Int32} {f : Nat → Int32} {r : List Value} (hw : rd w a = some (.inr (N, .inl f))) (hin : ¬ (i < 0 ∨ N ≤ i.toNatClampNeg)) (hd : decode (gCode j) pc = .ok (.iaload, 1)) (kk : gKH p l e R s m args below meth c Q D cI cR ad A n0 s0 j (pc + 1, ls, ll, .int (f i.toNatClampNeg) :: r) w) : W p l e R s m args below meth c H locs cells slots Q (F0 m pc lsA (.int i :: .ref (ad a) :: r.map (gv ad))) := by
  obtain ⟨hx, hb, hml, hr, hlk, hnm, hown, hts, hE, hA⟩ := C
  obtain ⟨h1, h2, h3, h4, h5, h6, h7⟩ := id I
  have hw' : w.1 a = some (.inr (N, .inl f)) := hw
  have hat := gws_at (cI := cI) (cR := cR) (ad := ad) (gOK_lt h1 hw')
  rw [hw'] at hat
  exact va_iald hx hb hE.1 h2 a 0 hat rfl hin hd (kk lsA H locs cells slots hs I)
theorem gQ_map (ad : Nat → Nat) (o : Option Nat) : gv ad (gQ o) = va_rf (o.map ad) := by cases o <;> rfl
theorem gAald_ok (C : gCtx p s m args meth c D cI cR j A) (I : gInv D cI cR ad A s w H locs cells slots n0 s0) (hs : gHas ad lsA (gMax j) ls ll) {a N : Nat} {i : Int32} {f : Nat → Option Nat} {r : List Value} (hw : rd w a = some (.inr (N, .inr f))) (hin : ¬ (i < 0 ∨ N ≤ i.toNatClampNeg)) (hd : decode (gCode j) pc = .ok (.aaload, 1)) (kk : gKH p l e R s m args below meth c Q D cI cR ad A n0 s0 j (pc + 1, ls, ll, gQ (f i.toNatClampNeg) :: r) w) : W p l e R s m args below meth c H locs cells slots Q (F0 m pc lsA (.int i :: .ref (ad a) :: r.map (gv ad))) := by
  obtain ⟨hx, hb, hml, hr, hlk, hnm, hown, hts, hE, hA⟩ := C
  obtain ⟨h1, h2, h3, h4, h5, h6, h7⟩ := id I
  have hw' : w.1 a = some (.inr (N, .inr f)) := hw
  have hat := gws_at (cI := cI) (cR := cR) (ad := ad) (gOK_lt h1 hw')
  rw [hw'] at hat
  have k1 := kk lsA H locs cells slots hs I
  dsimp only at k1
  rw [List.map_cons, gQ_map] at k1
  exact va_aldq hx hb hE.1 h2 a 1 hat rfl hin hd k1
theorem gIast_ok (C : gCtx p s m args meth c D cI cR j A) (I : gInv D cI cR ad A s w H locs cells slots n0 s0) (hs : gHas ad lsA (gMax j) ls ll) {a N : Nat} {i x : Int32} {f : Nat → Int32} {r : List Value} (hw : rd w a = some (.inr (N, .inl f))) (hin : ¬ (i < 0 ∨ N ≤ i.toNatClampNeg)) (hd : decode (gCode j) pc = .ok (.iastore, 1)) (kk : gKH p l e R s m args below meth c Q D cI cR ad A n0 s0 j (pc + 1, ls, ll, r) (wr w a (iC N (upd f i.toNatClampNeg x)))) : W p l e R s m args below meth c H locs cells slots Q (F0 m pc lsA (.int x :: .int i :: .ref (ad a) :: r.map (gv ad))) := by
  obtain ⟨hx, hb, hml, hr, hlk, hnm, hown, hts, hE, hA⟩ := C
  obtain ⟨h1, h2, h3, h4, h5, h6, h7⟩ := id I
  have hw' : w.1 a = some (.inr (N, .inl f)) := hw
  have hat := gws_at (cI := cI) (cR := cR) (ad := ad) (gOK_lt h1 hw')
  rw [hw'] at hat
  refine W.iast hx hb (h2 a _ hat) ((hE.1.2 0 _ rfl).1 N (fun j => .int (f j))) (fun q => by cases q) (by show ¬ (i < 0 ∨ (arrV _ _ _).slots.size ≤ _); rw [arrV_size]; exact hin) rfl rfl hd fun H1 e1 z oq => ?_
  refine kk lsA H1 _ cells slots hs (I.put (by rw [hw']; exact fun h => by cases h) (fun h => by cases h) ?_ z oq)
  show H1[ad a]? = some (vp_cell _ _)
  rw [e1]
  show _ = some (vp_cell cI (N, .inl (upd f i.toNatClampNeg x)))
  rw [show vp_cell cI (N, .inl f) = arrV cI N (fun j => .int (f j)) from rfl, vp_cell_i, arrV_store]
  congr 2
  funext q
  by_cases hq : q = i.toNatClampNeg
  · subst hq
    simp [updV, upd]
  · simp [updV, upd, hq]
theorem gAast_ok (C : gCtx p s m args meth c D cI cR j A) (I : gInv D cI cR ad A s w H locs cells slots n0 s0) (hs : gHas ad lsA (gMax j) ls ll) {a v N : Nat} {i : Int32} {f : Nat → Option Nat} {fs r : List Value} (hw : rd w a = some (.inr (N, .inr f))) (hv : rd w v = some (.inl (7, fs))) (hin : ¬ (i < 0 ∨ N ≤ i.toNatClampNeg)) (hd : decode (gCode j) pc = .ok (.aastore, 1)) (kk : gKH p l e R s m args below meth c Q D cI cR ad A n0 s0 j (pc + 1, ls, ll, r) (wr w a (rC N (va_up f i.toNatClampNeg (some v))))) : W p l e R s m args below meth c H locs cells slots Q (F0 m pc lsA (.ref (ad v) :: .int i :: .ref (ad a) :: r.map (gv ad))) := by
  obtain ⟨hx, hb, hml, hr, hlk, hnm, hown, hts, hE, hA⟩ := C
  obtain ⟨h1, h2, h3, h4, h5, h6, h7⟩ := id I
  have hw' : w.1 a = some (.inr (N, .inr f)) := hw
  have hv' : w.1 v = some (.inl (7, fs)) := hv
  have hat := gws_at (cI := cI) (cR := cR) (ad := ad) (gOK_lt h1 hw')
  rw [hw'] at hat
  have hvt := gws_at (cI := cI) (cR := cR) (ad := ad) (gOK_lt h1 hv')
  rw [hv'] at hvt
  have hlt : i.toNatClampNeg < N := Nat.not_le.mp fun q => hin (Or.inr q)
  have h0 : ¬ i < 0 := fun q => hin (Or.inl q)
  obtain ⟨r', hr', cellV, g1, g2, g3, -⟩ := h2 v _ hvt
  have hcls := (hE.1.1 7 (RX7, TX7, 4) rfl).2
  obtain ⟨kA, comp, k1, k2, k3, -⟩ := (hE.1.2 1 _ rfl).2
  have hcomp : comp = D.1 7 := Option.some.inj (k3.symm.trans hcls.1)
  subst hcomp
  obtain ⟨kC, hkC, -⟩ := hcls.2
  have g1 : H[ad v]? = some cellV := g1
  have g2 : cellV.cls = D.1 7 := g2
  refine W.aast hx hb (h2 a _ hat) (fun q h => by cases h) (fun h => by cases h) k1 k2 rfl hkC ⟨h0, by show _ < (arrV _ _ _).slots.size; rw [arrV_size]; exact hlt⟩ g1 (fun q h => by rw [g3] at h; cases h) (by rw [g2]; exact hkC) (by rw [g2]; exact va_assign hcls) rfl rfl hd fun H1 e1 z oq => ?_
  refine kk lsA H1 _ cells slots hs (I.put (by rw [hw']; exact fun h => by cases h) (fun h => by cases h) ?_ z oq)
  show H1[ad a]? = some (vp_cell _ _)
  rw [e1]
  show some ((vp_cell cR (N, .inr (.inr (.inr (.inr (fun i => (f i).map ad)))))).setSlot _ _) = some (vp_cell cR (N, .inr (.inr (.inr (.inr (fun k => ((va_up f i.toNatClampNeg (some v)) k).map ad))))))
  rw [vp_cell_q, vp_cell_q, arrV_store]
  congr 2
  funext q
  by_cases hq : q = i.toNatClampNeg
  · subst hq
    simp [updV, va_up, va_rf]
  · simp [updV, va_up, hq]
theorem gNok_at {o ix ci : Nat} (h : gFind2 (gNS o) ix = some ci) : gNok o (ix, ci) := gNok_all o _ (gFind2_mem h)
theorem gNew_ok (C : gCtx p s m args meth c D cI cR j A) (I : gInv D cI cR ad A s w H locs cells slots n0 s0) (hs : gHas ad lsA (gMax j) ls ll) {ix ci : Nat} (hf : gFind2 (gNS (gOwn j)) ix = some ci) (hl : ¬ gSTR ≤ w.2.1) (hcells : cells + 1 ≤ R.cells) (hslots : slots + gN ci ≤ R.slots) (hd : decode (gCode j) pc = .ok (.new ix, 3)) (kk : gKH p l e R s m args below meth c Q D cI cR ad A n0 s0 j (pc + 3, ls, ll, .ref w.2.1 :: st) (al w (oC ci ((List.range (gN ci)).map fun k => defaultValue (gTy ci k))) (gN ci))) : W p l e R s m args below meth c H locs cells slots Q (F0 m pc lsA (st.map (gv ad))) := by
  obtain ⟨hx, hb, hml, hr, hlk, hnm, hown, hts, hE, hA⟩ := C
  obtain ⟨h1, h2, h3, h4, h5, h6, h7⟩ := id I
  obtain ⟨f1, f2, f3, f4⟩ := gNok_at hf
  obtain ⟨g1, g2, g3, g4, g5, g6⟩ := gKok_all ci f4
  have hKn := hE.1.1 ci _ g5
  have ha : ad w.2.1 = H.size := by
    rw [h5 w.2.1 (Nat.le_refl _) (Nat.not_le.mp hl)]
    omega
  refine W.newcK hx hb hown (hts _ f1) (hts _ f2) (hts _ f3) rfl hd hcells hslots hKn.2.1 rfl fun H1 kC hkC e1 z1 o1 => ?_
  have k1 := kk lsA H1 locs (cells + 1) (slots + gN ci) hs (I.push (fun h => by cases h) (Nat.not_le.mp hl) hA ?_ z1 o1)
  · dsimp only at k1
    rw [List.map_cons, show gv ad (.ref w.2.1) = .ref (ad w.2.1) from rfl, ha] at k1
    exact k1
  · refine ⟨_, g5, ?_⟩
    refine (u_born (gTy ci) hts g1 hKn hkC e1 g2).to fun k hk => ?_
    show defaultValue (gTy ci k) = vp_V (((List.range (gN ci)).map fun k => defaultValue (gTy ci k)).map (gv ad)) k
    unfold vp_V
    rw [List.getD_eq_getElem?_getD, List.getElem?_map, List.getElem?_map, List.getElem?_range hk]
    show _ = gv ad (defaultValue (gTy ci k))
    cases gTy ci k <;> rfl
theorem gNewa_ok (C : gCtx p s m args meth c D cI cR j A) (I : gInv D cI cR ad A s w H locs cells slots n0 s0) (hs : gHas ad lsA (gMax j) ls ll) {k : Int32} {r : List Value} (hl : ¬ (k < 0 ∨ 536870912 < k.toNatClampNeg * 4 ∨ gSTR ≤ w.2.1)) (hcells : cells + 1 ≤ R.cells) (hslots : slots + k.toNatClampNeg ≤ R.slots) (hd : decode (gCode j) pc = .ok (.newarray .int, 2)) (kk : gKH p l e R s m args below meth c Q D cI cR ad A n0 s0 j (pc + 2, ls, ll, .ref w.2.1 :: r) (al w (iC k.toNatClampNeg (fun _ => 0)) k.toNatClampNeg)) : W p l e R s m args below meth c H locs cells slots Q (F0 m pc lsA (.int k :: r.map (gv ad))) := by
  obtain ⟨hx, hb, hml, hr, hlk, hnm, hown, hts, hE, hA⟩ := C
  obtain ⟨h1, h2, h3, h4, h5, h6, h7⟩ := id I
  rw [not_or, not_or] at hl
  obtain ⟨l1, l2, l3⟩ := hl
  have ha : ad w.2.1 = H.size := by
    rw [h5 w.2.1 (Nat.le_refl _) (Nat.not_le.mp l3)]
    omega
  refine va_newaK hx hb (atype := .int) (hts _ gW_arrI) rfl hd rfl l1 rfl (Nat.not_lt.mp l2) hcells hslots rfl fun H1 cA e1 z1 o1 hAr hNm => ?_
  have hcA : cA = cI := by
    have h9 : s.vm.findClass ("[" ++ FieldType.int.toString) = some cI := (hE.1.2 0 _ rfl).2
    exact Option.some.inj (hNm.symm.trans h9)
  subst hcA
  have k1 := kk lsA H1 locs (cells + 1) (slots + k.toNatClampNeg) hs (I.push (fun h => by cases h) (Nat.not_le.mp l3) hA ?_ z1 o1)
  · dsimp only at k1
    rw [List.map_cons, show gv ad (.ref w.2.1) = .ref (ad w.2.1) from rfl, ha] at k1
    exact k1
  · exact e1
theorem gNewq_ok (C : gCtx p s m args meth c D cI cR j A) (I : gInv D cI cR ad A s w H locs cells slots n0 s0) (hs : gHas ad lsA (gMax j) ls ll) {ix : Nat} {k : Int32} {r : List Value} (hf : gFind2 (gNS (gOwn j)) ix = some 7) (hl : ¬ (k < 0 ∨ 536870912 < k.toNatClampNeg * 4 ∨ gSTR ≤ w.2.1)) (hcells : cells + 1 ≤ R.cells) (hslots : slots + k.toNatClampNeg ≤ R.slots) (hd : decode (gCode j) pc = .ok (.anewarray ix, 3)) (kk : gKH p l e R s m args below meth c Q D cI cR ad A n0 s0 j (pc + 3, ls, ll, .ref w.2.1 :: r) (al w (rC k.toNatClampNeg (fun _ => none)) k.toNatClampNeg)) : W p l e R s m args below meth c H locs cells slots Q (F0 m pc lsA (.int k :: r.map (gv ad))) := by
  obtain ⟨hx, hb, hml, hr, hlk, hnm, hown, hts, hE, hA⟩ := C
  obtain ⟨h1, h2, h3, h4, h5, h6, h7⟩ := id I
  obtain ⟨f1, f2, f3, f4⟩ := gNok_at hf
  rw [not_or, not_or] at hl
  obtain ⟨l1, l2, l3⟩ := hl
  have ha : ad w.2.1 = H.size := by
    rw [h5 w.2.1 (Nat.le_refl _) (Nat.not_le.mp l3)]
    omega
  refine W.anew hx hb hown (hts _ f1) (va_AO.use hE.2.2) rfl hd rfl l1 (Nat.not_lt.mp l2) hcells hslots fun cA kA comp q1 q2 q3 q4 => ?_
  have hcA : cA = cR := by
    obtain ⟨kA', comp', -, -, -, h9⟩ := (hE.1.2 1 _ rfl).2
    exact Option.some.inj (q1.symm.trans h9)
  subst hcA
  generalize hH1 : H.push ({ cls := cA, slots := Array.replicate k.toNatClampNeg .null, vm := .none } : Cell) = H1
  have z1 : H1.size = H.size + 1 := by rw [← hH1, Array.size_push]
  have e1 : H1[H.size]? = some (arrV cA k.toNatClampNeg (fun _ => .null)) := by rw [← hH1, Array.getElem?_push_size, ← arrV_new]
  have o1 : ∀ q : Nat, q < H.size → H1[q]? = H[q]? := fun q hq => by rw [← hH1, Array.getElem?_push, if_neg (Nat.ne_of_lt hq)]
  have k1 := kk lsA H1 locs (cells + 1) (slots + k.toNatClampNeg) hs (I.push (fun h => by cases h) (Nat.not_le.mp l3) hA ?_ z1 o1)
  · dsimp only at k1
    rw [List.map_cons, show gv ad (.ref w.2.1) = .ref (ad w.2.1) from rfl, ha] at k1
    exact k1
  · exact e1
end GH
