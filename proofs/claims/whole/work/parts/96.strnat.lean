/-! the class's constructor, with the literal's own members -/
def strG (N o v : Nat) (fm : Value) (U : State) : Prop := va_O "java/lang/String" o (fun q => N ≤ q) U U.heap ∧ va_OF "java/lang/String" "coder" "B" (.int 0) o (fun q => N ≤ q) U U.heap ∧ va_OF "java/lang/String" "value" "[B" (.ref v) o (fun q => N ≤ q) U U.heap ∧ va_T .byte v 135 (fun j => .int (J (tL j))) (fun q => N ≤ q) U U.heap ∧ va_Z "java/lang/String" "COMPACT_STRINGS" "Z" (.int 1) (fun q => N ≤ q) U U.heap ∧ va_Z "jdk/internal/util/Preconditions" "SIOOBE_FORMATTER" "Ljava/util/function/BiFunction;" fm (fun q => N ≤ q) U U.heap ∧ vk_R "SeamMere" 84 txS o U
theorem strG_tr {N o v : Nat} {fm : Value} {u U : State} (h : strG N o v fm u) (hW : u.WarmedH U.vm) (hq : ∀ a, a < N → U.heap[a]? = u.heap[a]?) : strG N o v fm U := by
  obtain ⟨h1, h2, h3, h4, h5, h6, h7⟩ := h
  have hk : ∀ a, a < u.heap.size → ¬ N ≤ a → U.heap[a]? = u.heap[a]? := fun a _ hn => hq a (Nat.not_le.mp hn)
  exact ⟨(h1.moved hW.alike).kept hk, (h2.moved hW.alike).kept hk, (h3.moved hW.alike).kept hk, (h4.moved hW.alike).kept hk, (h5.moved hW.alike).kept hk, (h6.moved hW.alike).kept hk, h7.warm hW⟩
theorem strG_same {N o v : Nat} {fm : Value} {u U : State} (h : strG N o v fm u) (hv : U.vm = u.vm) (hh : U.heap = u.heap) : strG N o v fm U := by
  obtain ⟨h1, h2, h3, h4, h5, h6, h7⟩ := h
  have ha : u.vm.Alike U.vm := hv ▸ Vm.Alike.refl u.vm
  unfold strG
  rw [hh]
  exact ⟨h1.moved ha, h2.moved ha, h3.moved ha, h4.moved ha, h5.moved ha, h6.moved ha, h7.same hv⟩
theorem strG_F {N o v : Nat} {fm : Value} {u : State} (h : strG N o v fm u) : strF o v fm u := by
  obtain ⟨h1, h2, h3, h4, h5, h6, h7⟩ := h
  have hk : ∀ q, NoA q → N ≤ q := fun q z => z.elim
  exact ⟨h1.narrow hk, h2.narrow hk, h3.narrow hk, h4.narrow hk, h5.narrow hk, h6.narrow hk, h7⟩
noncomputable def chS : List Value → Option Value := fun as => match as with
  | [.int i] => if i < 0 ∨ 135 ≤ i.toNatClampNeg then none else some (.int (J (tL (i.toNatClampNeg : Nat))))
  | _ => none
theorem chS_J {i : Nat} (hi : i < 135) : chS [.int (J i)] = some (.int (J (tL i))) := by
  show (if J i < 0 ∨ 135 ≤ (J i).toNatClampNeg then none else some (Value.int (J (tL ((J i).toNatClampNeg : Nat))))) = _
  have hv : ¬ (J i < 0 ∨ 135 ≤ (J i).toNatClampNeg) := by
    intro h
    rcases h with h | h
    · rw [← J_zero, J_lt (by omega) (by omega)] at h
      omega
    · rw [J_clamp (by omega)] at h
      omega
  rw [if_neg hv, J_clamp (by omega), Int.toNat_natCast]
theorem chS_inv {as : List Value} {v : Value} (h : chS as = some v) : ∃ j : Nat, j < 135 ∧ as = [.int (J j)] ∧ v = .int (J (tL j)) := by
  unfold chS at h
  split at h
  · rename_i i
    by_cases hv : i < 0 ∨ 135 ≤ i.toNatClampNeg
    · rw [if_pos hv] at h
      cases h
    · rw [if_neg hv] at h
      have e : J ((i.toNatClampNeg : Nat) : Int) = i := by
        obtain ⟨a, ha, rfl⟩ := J_of i
        have h0 : ¬ a < 0 := fun z => hv (Or.inl (by rw [← J_zero, J_lt ha (by omega)]; exact z))
        rw [J_clamp (by omega), Int.toNat_of_nonneg (by omega)]
      exact ⟨i.toNatClampNeg, Nat.not_le.mp (fun z => hv (Or.inr z)), by rw [e], (Option.some.inj h).symm⟩
  · cases h
noncomputable def natS : gNat := (fun kd as => if kd = 12 then (if as = [] then some (.ref gSTR) else none) else if kd = 10 then (if as = [] then some (.int (J 135)) else none) else if kd = 11 then chS as else none, fun _ _ _ => none)
theorem natS_s : sNat natS := ⟨rfl, rfl, fun _ hi => chS_J hi⟩
theorem gI86 : ∀ q ∈ gCS 8, q.2.1 = 10 → q.1 = 86 := by decide +kernel
theorem gI98 : ∀ q ∈ gCS 8, q.2.1 = 11 → q.1 = 98 := by decide +kernel
theorem gA75_lt {cI cR : ClassId} {ad : Nat → Nat} {N q : Nat} (had0 : ad 0 = N) (hq : q < N) : ¬ va_A (gws cI cR ad wJ) (N + 1) q := by
  rintro (⟨k, e2, h⟩ | h)
  · have hk : k < (gws cI cR ad wJ).length := (List.getElem?_eq_some_iff.mp h).1
    rw [gws_len] at hk
    have hk0 : k = 0 := by
      have : wJ.2.1 = 1 := rfl
      omega
    subst hk0
    rw [gws_at hk] at h
    have e := congrArg Prod.fst (Option.some.inj h)
    have e : ad 0 = q := e
    omega
  · omega
theorem gIn75 : gIn 75 [.ref 0] = (0, [some (.ref 0), none, none], [], []) := by
  unfold gIn
  rw [show gMax 75 = 3 from by decide +kernel, show gLong 75 = false from by decide +kernel]
  rfl
theorem gR75 : gR (gOwn 75) = "SeamMere" := by decide +kernel
theorem gO75 : gOwn 75 = 8 := by decide +kernel
theorem natS_ok {p : Program} {l : Launch} {e : Env} {s : State} {m : MethodId} {below : List Frame} {meth : Method} {c : Code} {Q : State → Prop} {args : Array Value} {D : va_G} {cI cR : ClassId} {ad : Nat → Nat} {N o v : Nat} {fm : Value} {w7 : gWd} (hfm : fm = .null ∨ ∃ t, fm = .ref t) (had0 : ad 0 = N) (hadS : ad gSTR = o) (hsz : s.heap.size = N + 1) (hG : strG N o v fm s) (hC : gCtx p s m args meth c D cI cR 75 (va_A (gws cI cR ad wJ) (N + 1))) :
    gNatOK p l e (gRm 30 (w7.2.1 - wJ.2.1) (w7.2.2 - wJ.2.2)) s m args below meth c Q D cI cR ad (va_A (gws cI cR ad wJ) (N + 1)) wJ.2.1 wJ.2.2 75 natS (none, w7) := by
  have S := gFixC hC
  have hT : ∀ w ∈ gTB, w.before args s = true := hC.2.2.2.2.2.2.2.1
  have hown : s.vm.findClass (gR (gOwn 75)) = some m.cls := hC.2.2.2.2.2.2.1
  rw [gR75] at S hown
  refine ⟨?_, ?_, ?_, ?_, ?_⟩
  · intro kd ix t v1 as pc lsA ls ll rest w H locs cells slots hkd hf h hd hcat I hs hle kk
    have hH : ∀ a, a < N → H[a]? = s.heap[a]? := fun a ha => I.2.2.2.1.2.1 a (by omega) (gA75_lt had0 ha)
    have hk : ∀ a, a < s.heap.size → ¬ N ≤ a → H[a]? = s.heap[a]? := fun a _ hn => hH a (Nat.not_le.mp hn)
    have hrc : ∃ cell : Cell, H[o]? = some cell ∧ cell.vm.isStatics = false ∧ s.vm.findClass "java/lang/String" = some cell.cls := by
      obtain ⟨cell, q1, q2, q3, -⟩ := hG.1.kept hk
      exact ⟨cell, q1, q2, q3⟩
    have hP : ∀ as : List Value, ∀ U : State, U.heap = H → s.WarmedH U.vm → va_Pc as (strF o v fm) as.toArray U := fun as U hU hW => ⟨rfl, strG_F (strG_tr hG hW (fun a ha => by rw [hU]; exact hH a ha))⟩
    have hcat' := gCatOk (m := m) (pc := pc) (lsA := lsA) (st := rest) (ad := ad) hcat
    have hF : cells + 0 ≤ (gRm 30 (w7.2.1 - wJ.2.1) (w7.2.2 - wJ.2.2)).cells ∧ slots + 0 ≤ (gRm 30 (w7.2.1 - wJ.2.1) (w7.2.2 - wJ.2.2)).slots := by
      have i1 := I.2.2.2.2.2.1
      have i2 := I.2.2.2.2.2.2
      have i3 : w.2.1 ≤ w7.2.1 := hle.1
      have i4 : w.2.2 ≤ w7.2.2 := hle.2
      refine ⟨?_, ?_⟩
      · show cells + 0 ≤ w7.2.1 - wJ.2.1
        omega
      · show slots + 0 ≤ w7.2.2 - wJ.2.2
        omega
    rw [gO75] at hf
    rcases hkd with e | e
    · subst e
      have hix : ix = 86 := gI86 _ (gFind_mem hf) rfl
      subst hix
      have h : (if as = [] then some (Value.int (J 135)) else none) = some v1 := h
      by_cases ha : as = []
      · rw [if_pos ha] at h
        subst ha
        cases h
        show W p l e _ s m args below meth c H locs cells slots Q (F0 m pc lsA (.ref (ad gSTR) :: rest.map (gv ad)))
        rw [hadS]
        refine sGo (va_runV (index := 86) (C := "java/lang/String") (b := o) (As := []) (rest := rest.map (gv ad)) (n := 0) S M_len (cwV (Ts := gTB) (ws' := gTB) 0 hT (gGood ?_) rfl rfl rfl ⟨rfl, by decide +kernel⟩ ⟨Nat.le_of_ble_eq_true rfl, Nat.le_of_ble_eq_true rfl⟩) ⟨str_blind, hrc, hP _⟩ rfl rfl hs.1 rfl hcat' hd hF) kk
        intro x hx'
        rcases List.mem_append.mp hx' with hx' | hx'
        · simp only [List.mem_cons, List.not_mem_nil, or_false] at hx'
          rcases hx' with rfl | rfl | rfl | rfl
          · exact gSl_len
          · exact gSi_len
          · exact gSs_len
          · exact gSin_S
        · rcases List.mem_cons.mp hx' with rfl | hx'
          · exact gS_len
          · exact hx'
      · rw [if_neg ha] at h
        cases h
    · subst e
      have hix : ix = 98 := gI98 _ (gFind_mem hf) rfl
      subst hix
      have h : chS as = some v1 := h
      obtain ⟨j, hj, rfl, rfl⟩ := chS_inv h
      show W p l e _ s m args below meth c H locs cells slots Q (F0 m pc lsA (.int (J j) :: .ref (ad gSTR) :: rest.map (gv ad)))
      rw [hadS]
      refine sGo (va_runV (index := 98) (C := "java/lang/String") (b := o) (As := [.int (J j)]) (rest := rest.map (gv ad)) (n := 1) S (M_cha hfm hj) (cwV (Ts := gTB) (ws' := gTB) 1 hT (gGood ?_) rfl rfl rfl ⟨rfl, by decide +kernel⟩ ⟨Nat.le_of_ble_eq_true rfl, Nat.le_of_ble_eq_true rfl⟩) ⟨str_blind, hrc, hP _⟩ rfl rfl hs.1 rfl hcat' hd hF) kk
      intro x hx'
      rcases List.mem_append.mp hx' with hx' | hx'
      · simp only [List.mem_cons, List.not_mem_nil, or_false] at hx'
        rcases hx' with rfl | rfl | rfl | rfl
        · exact gSl_cha
        · exact gSi_cha
        · exact gSs_cha
        · exact gSin_S
      · rcases List.mem_cons.mp hx' with rfl | hx'
        · exact gS_cha
        · exact hx'
  · intro v1 pc lsA rest H locs cells slots h _ hd kk
    have h : some (Value.ref gSTR) = some v1 := h
    cases h
    have kk : W p l e (gRm 30 (w7.2.1 - wJ.2.1) (w7.2.2 - wJ.2.2)) s m args below meth c H locs cells slots Q (F0 m (pc + 2) lsA (.ref (ad gSTR) :: rest.map (gv ad))) := kk
    rw [hadS] at kk
    exact va_ldcS hC.1 hC.2.1 hown hG.2.2.2.2.2.2 hd kk
  · intro i v1 pc lsA rest H locs cells slots h
    have h : (none : Option Value) = some v1 := h
    cases h
  · intro v1 pc lsA rest H locs cells slots h
    have h : (none : Option Value) = some v1 := h
    cases h
  · intro ix t b st rest u pc lsA ls ll w H locs cells slots _ h
    have h : (none : Option gRes) = some u := h
    cases h
theorem met75 (l : Launch) {D : va_G} {cI cR : ClassId} {ad : Nat → Nat} {N o v : Nat} {fm : Value} {w7 : gWd} (hfm : fm = .null ∨ ∃ t, fm = .ref t) (had0 : ad 0 = N) (hadS : ad gSTR = o) (hF : gFresh ad wJ (N + 1)) (hO : gOK wJ) (hc : gX (gC gNatNo 29) natS 75 0 [some (.ref 0), none, none] [] [] wJ = some (none, w7)) :
    Met l (gName 75) (gWs 75) (gRm 30 (w7.2.1 - wJ.2.1) (w7.2.2 - wJ.2.2)) (va_Pc ([Value.ref 0].map (gv ad)) (fun U => gPreB D cI cR ad wJ (N + 1) U ∧ strG N o v fm U)) (gPost D cI cR ad (none, w7) (va_A (gws cI cR ad wJ) (N + 1))) (w7.2.1 - wJ.2.1) (w7.2.2 - wJ.2.2) (va_A (gws cI cR ad wJ) (N + 1)) := by
  refine gMet_of (q := ((none, w7) : gRes)) (gSound l D cI cR 29) (gC_mono gNatNo 29) (strG N o v fm) (fun p e s m below meth c hsz hS hC => natS_ok hfm had0 hadS hsz hS hC) (by decide) ?_ ?_ ?_ hF hO
  · rw [show gMax 75 = 3 from by decide +kernel]
    exact Nat.le_of_ble_eq_true rfl
  · intro v hv
    rw [List.mem_singleton.mp hv]
    rfl
  · rw [gIn75]
    exact hc
/-! what the statement gives of the literal at the law's entry -/
def tmS : Term := .string "SeamMere" 84
theorem fL_J : ∀ j : Nat, j < 135 → (fL.map J).getD j 0 = J (tL j) := by decide +kernel
set_option maxRecDepth 100000 in
theorem hel_mem : ∀ j : Nat, j < 135 → Cond.eq (.elem (.field (.string "SeamMere" 84) "java/lang/String" "value" "[B") (.int (Int32.ofNat j))) (.int ((fL.map J).getD j 0)) ∈ flatC (Jvm.Cond.and given_1 narrow_1) := by decide +kernel
theorem strG_entry {args : Array Value} {s : State} (hgv : (Jvm.Cond.and given_1 narrow_1).before args s = true) (hts : ∀ w ∈ lw_tbl, w.before args s = true) : ∃ (o v : Nat) (fm : Value), strG s.heap.size o v fm s ∧ (fm = .null ∨ ∃ t, fm = .ref t) := by
  have hs := flat_of_before _ hgv
  have hA : ∀ a : Nat, a < s.heap.size → ¬ s.heap.size ≤ a := fun a h => by omega
  obtain ⟨adK, adV, hS, hev⟩ := vk_Sof (args := args) (s := s) (N := 1) (tm := fun _ => .string "SeamMere" 84) (len := [135]) (byt := [fL.map J]) (A := fun q => s.heap.size ≤ q)
    (fun i hi => by
      have : i = 0 := by omega
      subst this
      decide)
    (fun i hi => hs _ (by decide +kernel)) (fun i hi => hs _ (by decide +kernel)) (fun i hi => hs _ (by decide +kernel))
    (fun i hi => by
      have : i = 0 := by omega
      subst this
      exact hs _ (by decide +kernel))
    (fun i hi j hj => by
      have : i = 0 := by omega
      subst this
      exact hs _ (hel_mem j hj))
    (fun i j hi hj hij => absurd (show i = j by omega) hij) hA
  obtain ⟨s1, s2, s3, cell, t1, t2, t3, t4, t5, t6, t7⟩ := hS.1 0 (by omega)
  have hcs := va_Zof (A := fun q => s.heap.size ≤ q) (hts (Cond.laysStatic "java/lang/String" "COMPACT_STRINGS" "Z") (by decide +kernel)) (hts (Cond.initialized "java/lang/String") (by decide +kernel)) (va_eqi (hs (Cond.eq (.static "java/lang/String" "COMPACT_STRINGS" "Z") (.int 1)) (by decide +kernel))) hA
  have hzq := va_Zqof (A := fun q => s.heap.size ≤ q) (hts (Cond.laysStatic "jdk/internal/util/Preconditions" "SIOOBE_FORMATTER" "Ljava/util/function/BiFunction;") (by decide +kernel)) (hts (Cond.initialized "jdk/internal/util/Preconditions") (by decide +kernel)) (hs (Cond.isRef (.static "jdk/internal/util/Preconditions" "SIOOBE_FORMATTER" "Ljava/util/function/BiFunction;")) (by decide +kernel)) hA
  have hT : va_T .byte (adV 0) 135 (fun j => .int (J (tL j))) (fun q => s.heap.size ≤ q) s s.heap := ⟨cell, t1, t2, t3, t4, t5, fun j hj => by rw [t6 j hj]; exact congrArg (fun x => some (Value.int x)) (fL_J j hj), t7⟩
  have hR : vk_R "SeamMere" 84 txS (adK 0) s := vk_R.of (hts (Cond.stringRef "SeamMere" 84 txS) (by decide +kernel)) (hev 0 (by omega))
  rcases hzq with hz | ⟨t, hz⟩
  · exact ⟨adK 0, adV 0, .null, ⟨s1, s2, s3, hT, hcs, hz, hR⟩, Or.inl rfl⟩
  · exact ⟨adK 0, adV 0, .ref t, ⟨s1, s2, s3, hT, hcs, hz, hR⟩, Or.inr ⟨t, rfl⟩⟩
