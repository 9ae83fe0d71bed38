/-! the literal's length and letters, by the library's own methods -/
def NoA : Nat → Prop := fun _ => False
def txS : String := "p6;g0,0,1,3,4;g0,1,2,9,6;g1,2,3,15,3;g2,0,3,20,5;g3,3,4,26,2;g0,4,5,33,7;g0,1,4,12,5;d0,0,3;d1,18,2;d2,30,4;d3,10,5;l14;r0;r0;r0;r1;r0;"
def strF (o v : Nat) (fm : Value) (U : State) : Prop := va_O "java/lang/String" o NoA U U.heap ∧ va_OF "java/lang/String" "coder" "B" (.int 0) o NoA U U.heap ∧ va_OF "java/lang/String" "value" "[B" (.ref v) o NoA U U.heap ∧ va_T .byte v 135 (fun j => .int (J (tL j))) NoA U U.heap ∧ va_Z "java/lang/String" "COMPACT_STRINGS" "Z" (.int 1) NoA U U.heap ∧ va_Z "jdk/internal/util/Preconditions" "SIOOBE_FORMATTER" "Ljava/util/function/BiFunction;" fm NoA U U.heap ∧ vk_R "SeamMere" 84 txS o U
theorem strF_tr {o v : Nat} {fm : Value} {u U : State} (h : strF o v fm u) (hW : u.WarmedH U.vm) (hq : ∀ a, a < u.heap.size → U.heap[a]? = u.heap[a]?) : strF o v fm U := by
  obtain ⟨h1, h2, h3, h4, h5, h6, h7⟩ := h
  exact ⟨(h1.moved hW.alike).kept (fun a ha _ => hq a ha), (h2.moved hW.alike).kept (fun a ha _ => hq a ha), (h3.moved hW.alike).kept (fun a ha _ => hq a ha), (h4.moved hW.alike).kept (fun a ha _ => hq a ha), (h5.moved hW.alike).kept (fun a ha _ => hq a ha), (h6.moved hW.alike).kept (fun a ha _ => hq a ha), h7.warm hW⟩
theorem strF_same {o v : Nat} {fm : Value} {u U : State} (h : strF o v fm u) (hv : U.vm = u.vm) (hh : U.heap = u.heap) : strF o v fm U := by
  obtain ⟨h1, h2, h3, h4, h5, h6, h7⟩ := h
  have ha : u.vm.Alike U.vm := hv ▸ Vm.Alike.refl u.vm
  unfold strF
  rw [hh]
  exact ⟨h1.moved ha, h2.moved ha, h3.moved ha, h4.moved ha, h5.moved ha, h6.moved ha, h7.same hv⟩
def sQ (v : Option Value) : Array Value → State → Outcome → State → Prop := fun _ st oc t => oc = .returned v ∧ t.heap = st.heap
abbrev sWs (y : MethodName) (cc : ByteArray) (n : Nat) (rt : Option FieldType) : List Cond := Cond.code y cc n rt :: gTB
theorem str_blind {o v : Nat} {fm : Value} {as : List Value} : FrameBlind (va_Pc as (strF o v fm)) := fun a U g mk q => ⟨q.1, strF_same q.2 rfl rfl⟩
section ST
variable {p : Program} {l : Launch} {e : Env} {R : Room} {s : State} {m : MethodId} {args : Array Value} {below : List Frame} {meth : Method} {c : Code} {H : Heap} {locs : List Loc} {cells slots : Nat} {Q : State → Prop}
theorem sGo {v : Option Value} {pc : Nat} {lsA : Array Slot} {st0 rest : List Value} {a0 : Array Value} (hr : va_Run p l e R s m args below meth c H locs cells slots 0 0 (F0 m pc lsA st0) rest (sQ v a0) NoA) (kk : W p l e R s m args below meth c H locs cells slots Q (F0 m (pc + 3) lsA (v.toList ++ rest))) : W p l e R s m args below meth c H locs cells slots Q (F0 m pc lsA st0) := by
  intro T hT X
  obtain ⟨v', st₀, t1, T', L, h0, X', hL, e1, e2, ⟨hv, hheap⟩, stp⟩ := hr T hT X
  cases hv
  have hL0 : L = [] := by
    cases L with
    | nil => rfl
    | cons q L => exact absurd (hL q List.mem_cons_self) id
  subst hL0
  rw [List.append_nil, Nat.add_zero, Nat.add_zero] at X'
  obtain ⟨t2, a1, b1⟩ := kk T' (by rw [e1, hheap, h0]) X'
  exact ⟨t2, stp t2 a1, b1⟩
theorem sPre {o v : Nat} {fm : Value} {as : List Value} (hF : strF o v fm s) (hH : H = s.heap) : ∀ U : State, U.heap = H → s.WarmedH U.vm → va_Pc as (strF o v fm) as.toArray U := fun U hU hW => ⟨rfl, strF_tr hF hW (fun a _ => by rw [hU, hH])⟩
end ST

def yS_pci : MethodName := ⟨"jdk/internal/util/Preconditions", "checkIndex", "(IILjava/util/function/BiFunction;)I"⟩
theorem gS_pci : Cond.code yS_pci prog_17_method_11_code 3 (some .int) ∈ gTB := List.mem_filter.mpr ⟨by decide +kernel, by decide +kernel⟩
def yS_cod : MethodName := ⟨"java/lang/String", "coder", "()B"⟩
theorem gS_cod : Cond.code yS_cod prog_14_method_152_code 1 (some .byte) ∈ gTB := List.mem_filter.mpr ⟨by decide +kernel, by decide +kernel⟩
def yS_lat : MethodName := ⟨"java/lang/String", "isLatin1", "()Z"⟩
theorem gS_lat : Cond.code yS_lat prog_14_method_154_code 1 (some .boolean) ∈ gTB := List.mem_filter.mpr ⟨by decide +kernel, by decide +kernel⟩
def yS_sci : MethodName := ⟨"java/lang/String", "checkIndex", "(II)V"⟩
theorem gS_sci : Cond.code yS_sci prog_14_method_155_code 2 none ∈ gTB := List.mem_filter.mpr ⟨by decide +kernel, by decide +kernel⟩
def yS_lch : MethodName := ⟨"java/lang/StringLatin1", "charAt", "([BI)C"⟩
theorem gS_lch : Cond.code yS_lch prog_15_method_2_code 2 (some .char) ∈ gTB := List.mem_filter.mpr ⟨by decide +kernel, by decide +kernel⟩
def yS_len : MethodName := ⟨"java/lang/String", "length", "()I"⟩
theorem gS_len : Cond.code yS_len prog_14_method_54_code 1 (some .int) ∈ gTB := List.mem_filter.mpr ⟨by decide +kernel, by decide +kernel⟩
def yS_cha : MethodName := ⟨"java/lang/String", "charAt", "(I)C"⟩
theorem gS_cha : Cond.code yS_cha prog_14_method_56_code 2 (some .char) ∈ gTB := List.mem_filter.mpr ⟨by decide +kernel, by decide +kernel⟩
theorem gSl_len : Cond.methodLink "SeamMere" 86 yS_len ∈ gTB := List.mem_filter.mpr ⟨by decide +kernel, by decide +kernel⟩
theorem gSl_cha : Cond.methodLink "SeamMere" 98 yS_cha ∈ gTB := List.mem_filter.mpr ⟨by decide +kernel, by decide +kernel⟩
theorem gSl_cod : Cond.methodLink "java/lang/String" 335 yS_cod ∈ gTB := List.mem_filter.mpr ⟨by decide +kernel, by decide +kernel⟩
theorem gSl_lat : Cond.methodLink "java/lang/String" 492 yS_lat ∈ gTB := List.mem_filter.mpr ⟨by decide +kernel, by decide +kernel⟩
theorem gSl_lch : Cond.methodLink "java/lang/String" 495 yS_lch ∈ gTB := List.mem_filter.mpr ⟨by decide +kernel, by decide +kernel⟩
theorem gSl_sci : Cond.methodLink "java/lang/StringLatin1" 9 yS_sci ∈ gTB := List.mem_filter.mpr ⟨by decide +kernel, by decide +kernel⟩
theorem gSl_pci : Cond.methodLink "java/lang/String" 1059 yS_pci ∈ gTB := List.mem_filter.mpr ⟨by decide +kernel, by decide +kernel⟩
theorem gSi_len : Cond.instanceMethod yS_len ∈ gTB := List.mem_filter.mpr ⟨by decide +kernel, by decide +kernel⟩
theorem gSs_len : Cond.selects "java/lang/String" yS_len yS_len ∈ gTB := List.mem_filter.mpr ⟨by decide +kernel, by decide +kernel⟩
theorem gSi_cha : Cond.instanceMethod yS_cha ∈ gTB := List.mem_filter.mpr ⟨by decide +kernel, by decide +kernel⟩
theorem gSs_cha : Cond.selects "java/lang/String" yS_cha yS_cha ∈ gTB := List.mem_filter.mpr ⟨by decide +kernel, by decide +kernel⟩
theorem gSi_cod : Cond.instanceMethod yS_cod ∈ gTB := List.mem_filter.mpr ⟨by decide +kernel, by decide +kernel⟩
theorem gSs_cod : Cond.selects "java/lang/String" yS_cod yS_cod ∈ gTB := List.mem_filter.mpr ⟨by decide +kernel, by decide +kernel⟩
theorem gSi_lat : Cond.instanceMethod yS_lat ∈ gTB := List.mem_filter.mpr ⟨by decide +kernel, by decide +kernel⟩
theorem gSs_lat : Cond.selects "java/lang/String" yS_lat yS_lat ∈ gTB := List.mem_filter.mpr ⟨by decide +kernel, by decide +kernel⟩
theorem gSt_lch : Cond.static yS_lch ∈ gTB := List.mem_filter.mpr ⟨by decide +kernel, by decide +kernel⟩
theorem gSt_sci : Cond.static yS_sci ∈ gTB := List.mem_filter.mpr ⟨by decide +kernel, by decide +kernel⟩
theorem gSt_pci : Cond.static yS_pci ∈ gTB := List.mem_filter.mpr ⟨by decide +kernel, by decide +kernel⟩
theorem gSin_S : Cond.initialized "java/lang/String" ∈ gTB := List.mem_filter.mpr ⟨by decide +kernel, by decide +kernel⟩
theorem gSin_L : Cond.initialized "java/lang/StringLatin1" ∈ gTB := List.mem_filter.mpr ⟨by decide +kernel, by decide +kernel⟩
theorem gSin_P : Cond.initialized "jdk/internal/util/Preconditions" ∈ gTB := List.mem_filter.mpr ⟨by decide +kernel, by decide +kernel⟩
theorem gSf_cs : Cond.fieldLink "java/lang/String" 38 "java/lang/String" "COMPACT_STRINGS" "Z" ∈ gTB := List.mem_filter.mpr ⟨by decide +kernel, by decide +kernel⟩
theorem gSf_fm : Cond.fieldLink "java/lang/String" 1053 "jdk/internal/util/Preconditions" "SIOOBE_FORMATTER" "Ljava/util/function/BiFunction;" ∈ gTB := List.mem_filter.mpr ⟨by decide +kernel, by decide +kernel⟩
theorem gSf_v : Cond.fieldLink "java/lang/String" 9 "java/lang/String" "value" "[B" ∈ gTB := List.mem_filter.mpr ⟨by decide +kernel, by decide +kernel⟩
theorem gSf_c : Cond.fieldLink "java/lang/String" 15 "java/lang/String" "coder" "B" ∈ gTB := List.mem_filter.mpr ⟨by decide +kernel, by decide +kernel⟩
theorem M_pci0 {l : Launch} {o v : Nat}  {i n : Int32} (hi : ¬ i < 0) (hn : i < n) : Met l yS_pci (sWs yS_pci prog_17_method_11_code 3 (some .int)) (gRm 1 0 0) (va_Pc [.int i, .int n, .null] (strF o v .null)) (sQ (some (.int i))) 0 0 NoA := by
  refine Met.ofW (cc := prog_17_method_11_code) (maxL := 3) (ret := (some .int)) (by decide +kernel) rfl ?_
  intro p e s m args below meth c s₁ B hml hv
  obtain ⟨rfl, hF⟩ := hv
  have hts := atoms_spec (ws := sWs yS_pci prog_17_method_11_code 3 (some .int)) B.pre
  have hT : ∀ w ∈ gTB, w.before [.int i, .int n, .null].toArray s = true := fun w hw => hts w (List.mem_cons_of_mem _ hw)
  have hown : s.vm.findClass "jdk/internal/util/Preconditions" = some m.cls := findClass_of_methodNamed B.named
  have hS : va_S NoA s.heap s.heap [] := va_S.rf
  have hx := B.exec
  have hb := B.bytes
  have hlk := B.notSynchronized
  obtain ⟨h1, h2, h3, h4, h5, h6, h7⟩ := id hF
  rw [lg_entry_eq]
  refine lv_iload_n hx hb (k := 0) (x := i) (i := 0) (by decide +kernel) rfl rfl ?_
  refine lv_if_lt hx hb (off := 8) (tgt := 9) (by decide +kernel) rfl (fun h => absurd h hi) (fun _ => ?_)
  refine lv_iload_n hx hb (k := 0) (x := i) (i := 0) (by decide +kernel) rfl rfl ?_
  refine lv_iload_n hx hb (k := 1) (x := n) (i := 1) (by decide +kernel) rfl rfl ?_
  refine lv_icmp_lt hx hb (off := 10) (tgt := 16) (by decide +kernel) rfl (fun _ => ?_) (fun h => absurd hn h)
  refine lv_iload_n hx hb (k := 0) (x := i) (i := 0) (by decide +kernel) rfl rfl ?_
  exact W.zret hx hb B.returns rfl (fun t ht _ => ⟨rfl, ht⟩) (fun q hq => absurd hq List.not_mem_nil) (by decide +kernel) hlk

theorem M_pciR {l : Launch} {o v : Nat} {t : Nat} {i n : Int32} (hi : ¬ i < 0) (hn : i < n) : Met l yS_pci (sWs yS_pci prog_17_method_11_code 3 (some .int)) (gRm 1 0 0) (va_Pc [.int i, .int n, (.ref t)] (strF o v (.ref t))) (sQ (some (.int i))) 0 0 NoA := by
  refine Met.ofW (cc := prog_17_method_11_code) (maxL := 3) (ret := (some .int)) (by decide +kernel) rfl ?_
  intro p e s m args below meth c s₁ B hml hv
  obtain ⟨rfl, hF⟩ := hv
  have hts := atoms_spec (ws := sWs yS_pci prog_17_method_11_code 3 (some .int)) B.pre
  have hT : ∀ w ∈ gTB, w.before [.int i, .int n, (.ref t)].toArray s = true := fun w hw => hts w (List.mem_cons_of_mem _ hw)
  have hown : s.vm.findClass "jdk/internal/util/Preconditions" = some m.cls := findClass_of_methodNamed B.named
  have hS : va_S NoA s.heap s.heap [] := va_S.rf
  have hx := B.exec
  have hb := B.bytes
  have hlk := B.notSynchronized
  obtain ⟨h1, h2, h3, h4, h5, h6, h7⟩ := id hF
  rw [lg_entry_eq]
  refine lv_iload_n hx hb (k := 0) (x := i) (i := 0) (by decide +kernel) rfl rfl ?_
  refine lv_if_lt hx hb (off := 8) (tgt := 9) (by decide +kernel) rfl (fun h => absurd h hi) (fun _ => ?_)
  refine lv_iload_n hx hb (k := 0) (x := i) (i := 0) (by decide +kernel) rfl rfl ?_
  refine lv_iload_n hx hb (k := 1) (x := n) (i := 1) (by decide +kernel) rfl rfl ?_
  refine lv_icmp_lt hx hb (off := 10) (tgt := 16) (by decide +kernel) rfl (fun _ => ?_) (fun h => absurd hn h)
  refine lv_iload_n hx hb (k := 0) (x := i) (i := 0) (by decide +kernel) rfl rfl ?_
  exact W.zret hx hb B.returns rfl (fun t ht _ => ⟨rfl, ht⟩) (fun q hq => absurd hq List.not_mem_nil) (by decide +kernel) hlk

theorem M_cod {l : Launch} {o v : Nat} {fm : Value} : Met l yS_cod (sWs yS_cod prog_14_method_152_code 1 (some .byte)) (gRm 1 0 0) (va_Pc [.ref o] (strF o v fm)) (sQ (some (.int 0))) 0 0 NoA := by
  refine Met.ofW (cc := prog_14_method_152_code) (maxL := 1) (ret := (some .byte)) (by decide +kernel) rfl ?_
  intro p e s m args below meth c s₁ B hml hv
  obtain ⟨rfl, hF⟩ := hv
  have hts := atoms_spec (ws := sWs yS_cod prog_14_method_152_code 1 (some .byte)) B.pre
  have hT : ∀ w ∈ gTB, w.before [.ref o].toArray s = true := fun w hw => hts w (List.mem_cons_of_mem _ hw)
  have hown : s.vm.findClass "java/lang/String" = some m.cls := findClass_of_methodNamed B.named
  have hS : va_S NoA s.heap s.heap [] := va_S.rf
  have hx := B.exec
  have hb := B.bytes
  have hlk := B.notSynchronized
  obtain ⟨h1, h2, h3, h4, h5, h6, h7⟩ := id hF
  rw [lg_entry_eq]
  refine va_gets hx hb h5 hS hown (hT _ gSf_cs) (fun _ h => h) (by decide +kernel) ?_
  refine lv_if_eq hx hb (off := 10) (tgt := 13) (by decide +kernel) rfl (fun h => absurd h (by decide)) (fun _ => ?_)
  refine lv_aload_n hx hb (k := 0) (x := o) (i := 0) (by decide +kernel) rfl rfl ?_
  refine vk_getf hx hb h2 hS hown (hT _ gSf_c) (fun _ h => h) (by decide +kernel) ?_
  refine lv_goto hx hb (off := 4) (tgt := 14) (by decide +kernel) rfl ?_
  exact W.zret hx hb B.returns (by decide +kernel) (fun t ht _ => ⟨rfl, ht⟩) (fun q hq => absurd hq List.not_mem_nil) (by decide +kernel) hlk

theorem M_lat {l : Launch} {o v : Nat} {fm : Value} : Met l yS_lat (sWs yS_lat prog_14_method_154_code 1 (some .boolean)) (gRm 1 0 0) (va_Pc [.ref o] (strF o v fm)) (sQ (some (.int 1))) 0 0 NoA := by
  refine Met.ofW (cc := prog_14_method_154_code) (maxL := 1) (ret := (some .boolean)) (by decide +kernel) rfl ?_
  intro p e s m args below meth c s₁ B hml hv
  obtain ⟨rfl, hF⟩ := hv
  have hts := atoms_spec (ws := sWs yS_lat prog_14_method_154_code 1 (some .boolean)) B.pre
  have hT : ∀ w ∈ gTB, w.before [.ref o].toArray s = true := fun w hw => hts w (List.mem_cons_of_mem _ hw)
  have hown : s.vm.findClass "java/lang/String" = some m.cls := findClass_of_methodNamed B.named
  have hS : va_S NoA s.heap s.heap [] := va_S.rf
  have hx := B.exec
  have hb := B.bytes
  have hlk := B.notSynchronized
  obtain ⟨h1, h2, h3, h4, h5, h6, h7⟩ := id hF
  rw [lg_entry_eq]
  refine va_gets hx hb h5 hS hown (hT _ gSf_cs) (fun _ h => h) (by decide +kernel) ?_
  refine lv_if_eq hx hb (off := 14) (tgt := 17) (by decide +kernel) rfl (fun h => absurd h (by decide)) (fun _ => ?_)
  refine lv_aload_n hx hb (k := 0) (x := o) (i := 0) (by decide +kernel) rfl rfl ?_
  refine vk_getf hx hb h2 hS hown (hT _ gSf_c) (fun _ h => h) (by decide +kernel) ?_
  refine lv_if_ne hx hb (off := 7) (tgt := 17) (by decide +kernel) rfl (fun h => absurd rfl h) (fun _ => ?_)
  refine lv_iconst hx hb (n := 1) (v := 1) (by decide +kernel) rfl ?_
  refine lv_goto hx hb (off := 4) (tgt := 18) (by decide +kernel) rfl ?_
  exact W.zret hx hb B.returns (by decide +kernel) (fun t ht _ => ⟨rfl, ht⟩) (fun q hq => absurd hq List.not_mem_nil) (by decide +kernel) hlk

theorem M_sci0 {l : Launch} {o v : Nat}  {i n : Int32} (hi : ¬ i < 0) (hn : i < n) : Met l yS_sci (sWs yS_sci prog_14_method_155_code 2 none) (gRm 2 0 0) (va_Pc [.int i, .int n] (strF o v .null)) (sQ none) 0 0 NoA := by
  refine Met.ofW (cc := prog_14_method_155_code) (maxL := 2) (ret := none) (by decide +kernel) rfl ?_
  intro p e s m args below meth c s₁ B hml hv
  obtain ⟨rfl, hF⟩ := hv
  have hts := atoms_spec (ws := sWs yS_sci prog_14_method_155_code 2 none) B.pre
  have hT : ∀ w ∈ gTB, w.before [.int i, .int n].toArray s = true := fun w hw => hts w (List.mem_cons_of_mem _ hw)
  have hown : s.vm.findClass "java/lang/String" = some m.cls := findClass_of_methodNamed B.named
  have hS : va_S NoA s.heap s.heap [] := va_S.rf
  have hx := B.exec
  have hb := B.bytes
  have hlk := B.notSynchronized
  obtain ⟨h1, h2, h3, h4, h5, h6, h7⟩ := id hF
  rw [lg_entry_eq]
  refine lv_iload_n hx hb (k := 0) (x := i) (i := 0) (by decide +kernel) rfl rfl ?_
  refine lv_iload_n hx hb (k := 1) (x := n) (i := 1) (by decide +kernel) rfl rfl ?_
  refine va_gets hx hb h6 hS hown (hT _ gSf_fm) (fun _ h => h) (by decide +kernel) ?_
  refine sGo (va_runS (index := 1059) (As := [.int i, .int n, .null]) (rest := []) (n := 3) ⟨hx, hb, hml, hown, hT⟩ (M_pci0 (o := o) (v := v) hi hn) (va_cwS (Ts := gTB) (ws' := gTB) 3 hT (gGood ?_) rfl rfl rfl (by decide +kernel) ⟨by decide +kernel, by decide +kernel⟩) ⟨str_blind, sPre hF rfl⟩ rfl rfl rfl rfl (Nat.le_of_ble_eq_true rfl) (show decode prog_14_method_155_code 5 = .ok (.invokestatic 1059, 3) from by decide +kernel) ⟨Nat.zero_le _, Nat.zero_le _⟩) ?_
  · intro x hx'
    rcases List.mem_append.mp hx' with hx' | hx'
    · simp only [List.mem_cons, List.not_mem_nil, or_false] at hx'
      rcases hx' with rfl | rfl | rfl
      · exact gSl_pci
      · exact gSt_pci
      · exact gSin_P
    · rcases List.mem_cons.mp hx' with rfl | hx'
      · exact gS_pci
      · exact hx'
  refine lv_pop hx hb (va := .int i) (by decide +kernel) rfl ?_
  exact W.vret hx hb B.returns (fun t ht _ => ⟨rfl, ht⟩) (fun q hq => absurd hq List.not_mem_nil) (by decide +kernel) hlk

theorem M_sciR {l : Launch} {o v : Nat} {t : Nat} {i n : Int32} (hi : ¬ i < 0) (hn : i < n) : Met l yS_sci (sWs yS_sci prog_14_method_155_code 2 none) (gRm 2 0 0) (va_Pc [.int i, .int n] (strF o v (.ref t))) (sQ none) 0 0 NoA := by
  refine Met.ofW (cc := prog_14_method_155_code) (maxL := 2) (ret := none) (by decide +kernel) rfl ?_
  intro p e s m args below meth c s₁ B hml hv
  obtain ⟨rfl, hF⟩ := hv
  have hts := atoms_spec (ws := sWs yS_sci prog_14_method_155_code 2 none) B.pre
  have hT : ∀ w ∈ gTB, w.before [.int i, .int n].toArray s = true := fun w hw => hts w (List.mem_cons_of_mem _ hw)
  have hown : s.vm.findClass "java/lang/String" = some m.cls := findClass_of_methodNamed B.named
  have hS : va_S NoA s.heap s.heap [] := va_S.rf
  have hx := B.exec
  have hb := B.bytes
  have hlk := B.notSynchronized
  obtain ⟨h1, h2, h3, h4, h5, h6, h7⟩ := id hF
  rw [lg_entry_eq]
  refine lv_iload_n hx hb (k := 0) (x := i) (i := 0) (by decide +kernel) rfl rfl ?_
  refine lv_iload_n hx hb (k := 1) (x := n) (i := 1) (by decide +kernel) rfl rfl ?_
  refine va_gets hx hb h6 hS hown (hT _ gSf_fm) (fun _ h => h) (by decide +kernel) ?_
  refine sGo (va_runS (index := 1059) (As := [.int i, .int n, (.ref t)]) (rest := []) (n := 3) ⟨hx, hb, hml, hown, hT⟩ (M_pciR (o := o) (v := v) hi hn) (va_cwS (Ts := gTB) (ws' := gTB) 3 hT (gGood ?_) rfl rfl rfl (by decide +kernel) ⟨by decide +kernel, by decide +kernel⟩) ⟨str_blind, sPre hF rfl⟩ rfl rfl rfl rfl (Nat.le_of_ble_eq_true rfl) (show decode prog_14_method_155_code 5 = .ok (.invokestatic 1059, 3) from by decide +kernel) ⟨Nat.zero_le _, Nat.zero_le _⟩) ?_
  · intro x hx'
    rcases List.mem_append.mp hx' with hx' | hx'
    · simp only [List.mem_cons, List.not_mem_nil, or_false] at hx'
      rcases hx' with rfl | rfl | rfl
      · exact gSl_pci
      · exact gSt_pci
      · exact gSin_P
    · rcases List.mem_cons.mp hx' with rfl | hx'
      · exact gS_pci
      · exact hx'
  refine lv_pop hx hb (va := .int i) (by decide +kernel) rfl ?_
  exact W.vret hx hb B.returns (fun t ht _ => ⟨rfl, ht⟩) (fun q hq => absurd hq List.not_mem_nil) (by decide +kernel) hlk

theorem M_sci {l : Launch} {o v : Nat} {fm : Value} (hfm : fm = .null ∨ ∃ t, fm = .ref t) {i n : Int32} (hi : ¬ i < 0) (hn : i < n) : Met l yS_sci (sWs yS_sci prog_14_method_155_code 2 none) (gRm 2 0 0) (va_Pc [.int i, .int n] (strF o v fm)) (sQ none) 0 0 NoA := by
  rcases hfm with rfl | ⟨t, rfl⟩
  · exact M_sci0 hi hn
  · exact M_sciR hi hn
theorem tL_ch : ∀ j : Nat, j < 135 → ((J (tL j) &&& J 255).toUInt32 % 65536).toInt32 = J (tL j) := by decide +kernel
theorem tL_nar : ∀ j : Nat, j < 135 → narrow .char (.int (J (tL j))) = .int (J (tL j)) := by decide +kernel
theorem M_lch {l : Launch} {o v : Nat} {fm : Value} (hfm : fm = .null ∨ ∃ t, fm = .ref t) {j : Nat} (hj : j < 135) : Met l yS_lch (sWs yS_lch prog_15_method_2_code 2 (some .char)) (gRm 3 0 0) (va_Pc [.ref v, .int (J j)] (strF o v fm)) (sQ (some (.int (J (tL j))))) 0 0 NoA := by
  refine Met.ofW (cc := prog_15_method_2_code) (maxL := 2) (ret := (some .char)) (by decide +kernel) rfl ?_
  intro p e s m args below meth c s₁ B hml hv
  obtain ⟨rfl, hF⟩ := hv
  have hts := atoms_spec (ws := sWs yS_lch prog_15_method_2_code 2 (some .char)) B.pre
  have hT : ∀ w ∈ gTB, w.before [.ref v, .int (J j)].toArray s = true := fun w hw => hts w (List.mem_cons_of_mem _ hw)
  have hown : s.vm.findClass "java/lang/StringLatin1" = some m.cls := findClass_of_methodNamed B.named
  have hS : va_S NoA s.heap s.heap [] := va_S.rf
  have hx := B.exec
  have hb := B.bytes
  have hlk := B.notSynchronized
  obtain ⟨h1, h2, h3, h4, h5, h6, h7⟩ := id hF
  rw [lg_entry_eq]
  have hi : ¬ J j < 0 := by rw [← J_zero, J_lt (by omega) (by omega)]; omega
  have hn : J j < J 135 := by rw [J_lt (by omega) (by omega)]; omega
  have hcl : (J (j : Int)).toNatClampNeg = j := by rw [J_clamp (by omega), Int.toNat_natCast]
  have ht := tL_in j (by omega) (by omega)
  refine lv_iload_n hx hb (k := 1) (x := J j) (i := 1) (by decide +kernel) rfl rfl ?_
  refine lv_aload_n hx hb (k := 0) (x := v) (i := 0) (by decide +kernel) rfl rfl ?_
  refine va_tlen hx hb h4 hS (v := J 135) rfl (by decide +kernel) ?_
  refine sGo (va_runS (index := 9) (As := [.int (J j), .int (J 135)]) (rest := []) (n := 2) ⟨hx, hb, hml, hown, hT⟩ (M_sci (o := o) (v := v) (fm := fm) hfm hi hn) (va_cwS (Ts := gTB) (ws' := gTB) 2 hT (gGood ?_) rfl rfl rfl (by decide +kernel) ⟨by decide +kernel, by decide +kernel⟩) ⟨str_blind, sPre hF rfl⟩ rfl rfl rfl rfl (Nat.le_of_ble_eq_true rfl) (show decode prog_15_method_2_code 3 = .ok (.invokestatic 9, 3) from by decide +kernel) ⟨Nat.zero_le _, Nat.zero_le _⟩) ?_
  · intro x hx'
    rcases List.mem_append.mp hx' with hx' | hx'
    · simp only [List.mem_cons, List.not_mem_nil, or_false] at hx'
      rcases hx' with rfl | rfl | rfl
      · exact gSl_sci
      · exact gSt_sci
      · exact gSin_S
    · rcases List.mem_cons.mp hx' with rfl | hx'
      · exact gS_sci
      · exact hx'
  refine lv_aload_n hx hb (k := 0) (x := v) (i := 0) (by decide +kernel) rfl rfl ?_
  refine lv_iload_n hx hb (k := 1) (x := J j) (i := 1) (by decide +kernel) rfl rfl ?_
  refine va_tb hx hb h4 hS (fun h => ?_) (v := .int (J (tL j))) (by rw [hcl]) (by decide +kernel) ?_
  · rcases h with h | h
    · exact hi h
    · rw [hcl] at h
      omega
  refine lv_sipush hx hb (n := 255) (v := J 255) (by decide +kernel) rfl ?_
  refine lv_iand hx hb (by decide +kernel) ?_
  refine lv_i2c hx hb (v := J (tL j)) (by decide +kernel) (tL_ch j hj) ?_
  exact W.zret hx hb B.returns (tL_nar j hj) (fun t ht _ => ⟨rfl, ht⟩) (fun q hq => absurd hq List.not_mem_nil) (by decide +kernel) hlk

theorem M_len {l : Launch} {o v : Nat} {fm : Value} : Met l yS_len (sWs yS_len prog_14_method_54_code 1 (some .int)) (gRm 2 0 0) (va_Pc [.ref o] (strF o v fm)) (sQ (some (.int (J 135)))) 0 0 NoA := by
  refine Met.ofW (cc := prog_14_method_54_code) (maxL := 1) (ret := (some .int)) (by decide +kernel) rfl ?_
  intro p e s m args below meth c s₁ B hml hv
  obtain ⟨rfl, hF⟩ := hv
  have hts := atoms_spec (ws := sWs yS_len prog_14_method_54_code 1 (some .int)) B.pre
  have hT : ∀ w ∈ gTB, w.before [.ref o].toArray s = true := fun w hw => hts w (List.mem_cons_of_mem _ hw)
  have hown : s.vm.findClass "java/lang/String" = some m.cls := findClass_of_methodNamed B.named
  have hS : va_S NoA s.heap s.heap [] := va_S.rf
  have hx := B.exec
  have hb := B.bytes
  have hlk := B.notSynchronized
  obtain ⟨h1, h2, h3, h4, h5, h6, h7⟩ := id hF
  rw [lg_entry_eq]
  refine lv_aload_n hx hb (k := 0) (x := o) (i := 0) (by decide +kernel) rfl rfl ?_
  refine vk_getf hx hb h3 hS hown (hT _ gSf_v) (fun _ h => h) (by decide +kernel) ?_
  refine va_tlen hx hb h4 hS (v := J 135) rfl (by decide +kernel) ?_
  refine lv_aload_n hx hb (k := 0) (x := o) (i := 0) (by decide +kernel) rfl rfl ?_
  refine sGo (va_runV (index := 335) (C := "java/lang/String") (b := o) (As := []) (rest := [.int (J 135)]) (n := 0) ⟨hx, hb, hml, hown, hT⟩ (M_cod (o := o) (v := v) (fm := fm)) (cwV (Ts := gTB) (ws' := gTB) 0 hT (gGood ?_) rfl rfl rfl ⟨rfl, by decide +kernel⟩ ⟨by decide +kernel, by decide +kernel⟩) ⟨str_blind, ⟨_, h1.choose_spec.1, h1.choose_spec.2.1, h1.choose_spec.2.2.1⟩, sPre hF rfl⟩ rfl rfl rfl rfl (Nat.le_of_ble_eq_true rfl) (show decode prog_14_method_54_code 6 = .ok (.invokevirtual 335, 3) from by decide +kernel) ⟨Nat.zero_le _, Nat.zero_le _⟩) ?_
  · intro x hx'
    rcases List.mem_append.mp hx' with hx' | hx'
    · simp only [List.mem_cons, List.not_mem_nil, or_false] at hx'
      rcases hx' with rfl | rfl | rfl | rfl
      · exact gSl_cod
      · exact gSi_cod
      · exact gSs_cod
      · exact gSin_S
    · rcases List.mem_cons.mp hx' with rfl | hx'
      · exact gS_cod
      · exact hx'
  refine lv_ishr hx hb (x := J 135) (y := 0) (by decide +kernel) ?_
  rw [show J 135 >>> ((0 : Int32) &&& 31) = J 135 from by decide +kernel]
  exact W.zret hx hb B.returns rfl (fun t ht _ => ⟨rfl, ht⟩) (fun q hq => absurd hq List.not_mem_nil) (by decide +kernel) hlk

theorem M_cha {l : Launch} {o v : Nat} {fm : Value} (hfm : fm = .null ∨ ∃ t, fm = .ref t) {j : Nat} (hj : j < 135) : Met l yS_cha (sWs yS_cha prog_14_method_56_code 2 (some .char)) (gRm 4 0 0) (va_Pc [.ref o, .int (J j)] (strF o v fm)) (sQ (some (.int (J (tL j))))) 0 0 NoA := by
  refine Met.ofW (cc := prog_14_method_56_code) (maxL := 2) (ret := (some .char)) (by decide +kernel) rfl ?_
  intro p e s m args below meth c s₁ B hml hv
  obtain ⟨rfl, hF⟩ := hv
  have hts := atoms_spec (ws := sWs yS_cha prog_14_method_56_code 2 (some .char)) B.pre
  have hT : ∀ w ∈ gTB, w.before [.ref o, .int (J j)].toArray s = true := fun w hw => hts w (List.mem_cons_of_mem _ hw)
  have hown : s.vm.findClass "java/lang/String" = some m.cls := findClass_of_methodNamed B.named
  have hS : va_S NoA s.heap s.heap [] := va_S.rf
  have hx := B.exec
  have hb := B.bytes
  have hlk := B.notSynchronized
  obtain ⟨h1, h2, h3, h4, h5, h6, h7⟩ := id hF
  rw [lg_entry_eq]
  refine lv_aload_n hx hb (k := 0) (x := o) (i := 0) (by decide +kernel) rfl rfl ?_
  refine sGo (va_runV (index := 492) (C := "java/lang/String") (b := o) (As := []) (rest := []) (n := 0) ⟨hx, hb, hml, hown, hT⟩ (M_lat (o := o) (v := v) (fm := fm)) (cwV (Ts := gTB) (ws' := gTB) 0 hT (gGood ?_) rfl rfl rfl ⟨rfl, by decide +kernel⟩ ⟨by decide +kernel, by decide +kernel⟩) ⟨str_blind, ⟨_, h1.choose_spec.1, h1.choose_spec.2.1, h1.choose_spec.2.2.1⟩, sPre hF rfl⟩ rfl rfl rfl rfl (Nat.le_of_ble_eq_true rfl) (show decode prog_14_method_56_code 1 = .ok (.invokevirtual 492, 3) from by decide +kernel) ⟨Nat.zero_le _, Nat.zero_le _⟩) ?_
  · intro x hx'
    rcases List.mem_append.mp hx' with hx' | hx'
    · simp only [List.mem_cons, List.not_mem_nil, or_false] at hx'
      rcases hx' with rfl | rfl | rfl | rfl
      · exact gSl_lat
      · exact gSi_lat
      · exact gSs_lat
      · exact gSin_S
    · rcases List.mem_cons.mp hx' with rfl | hx'
      · exact gS_lat
      · exact hx'
  refine lv_if_eq hx hb (x := 1) (off := 12) (tgt := 16) (by decide +kernel) rfl (fun h => absurd h (by decide)) (fun _ => ?_)
  refine lv_aload_n hx hb (k := 0) (x := o) (i := 0) (by decide +kernel) rfl rfl ?_
  refine vk_getf hx hb h3 hS hown (hT _ gSf_v) (fun _ h => h) (by decide +kernel) ?_
  refine lv_iload_n hx hb (k := 1) (x := J j) (i := 1) (by decide +kernel) rfl rfl ?_
  refine sGo (va_runS (index := 495) (As := [.ref v, .int (J j)]) (rest := []) (n := 2) ⟨hx, hb, hml, hown, hT⟩ (M_lch (o := o) (v := v) (fm := fm) hfm hj) (va_cwS (Ts := gTB) (ws' := gTB) 2 hT (gGood ?_) rfl rfl rfl (by decide +kernel) ⟨by decide +kernel, by decide +kernel⟩) ⟨str_blind, sPre hF rfl⟩ rfl rfl rfl rfl (Nat.le_of_ble_eq_true rfl) (show decode prog_14_method_56_code 12 = .ok (.invokestatic 495, 3) from by decide +kernel) ⟨Nat.zero_le _, Nat.zero_le _⟩) ?_
  · intro x hx'
    rcases List.mem_append.mp hx' with hx' | hx'
    · simp only [List.mem_cons, List.not_mem_nil, or_false] at hx'
      rcases hx' with rfl | rfl | rfl
      · exact gSl_lch
      · exact gSt_lch
      · exact gSin_L
    · rcases List.mem_cons.mp hx' with rfl | hx'
      · exact gS_lch
      · exact hx'
  exact W.zret hx hb B.returns (tL_nar j hj) (fun t ht _ => ⟨rfl, ht⟩) (fun q hq => absurd hq List.not_mem_nil) (by decide +kernel) hlk
