/-! the tables' words at the law's entry -/
theorem hts_gTB {args : Array Value} {s : State} (hts : ∀ w ∈ lw_tbl, w.before args s = true) : ∀ w ∈ gTB, w.before args s = true := fun w hw => hts w (List.mem_filter.mp hw).1
theorem gE_of {args : Array Value} {s : State} (hts : ∀ w ∈ lw_tbl, w.before args s = true) : ∃ (D : va_G) (cI cR : ClassId), gE D cI cR s := by
  have hT := hts_gTB hts
  have hall : ∀ c : Nat, c < 10 → ∃ z : ClassId × (Nat → Nat), u_Kn s (gR c) (gT c) (gN c) z.1 z.2 := by
    intro c hc
    have hk := gKok_all c hc
    obtain ⟨cC, iS, h⟩ := u_known (ws := gTB) (args := args) (s := s) (C := gR c) (T := gT c) (N := gN c) hT hk.1 (hT _ hk.2.2.2.2.2)
    exact ⟨(cC, iS), h⟩
  obtain ⟨cI, kA, comp, a1, a2, a3⟩ := Cond.arrayClass_spec (hT _ gW_arrI)
  obtain ⟨comp2, cR, k2, b1, b2, b3, b4, b5⟩ := Cond.arrayOver_spec (hts _ gW_over)
  refine ⟨(fun c => if h : c < 10 then (Classical.choose (hall c h)).1 else 0, fun c => if h : c < 10 then (Classical.choose (hall c h)).2 else fun _ => 0), cI, cR, ⟨fun c q hq => ?_, fun k q hq => ?_⟩, fun w hw => ?_, va_AO.of (hts _ gW_over)⟩
  · have hlt : c < 10 := (List.getElem?_eq_some_iff.mp hq).1
    have hk := gKok_all c hlt
    have e := hk.2.2.2.2.1.symm.trans hq
    have e2 := Option.some.inj e
    rw [← e2]
    show u_Kn s (gR c) (gT c) (gN c) (if h : c < 10 then (Classical.choose (hall c h)).1 else 0) (if h : c < 10 then (Classical.choose (hall c h)).2 else fun _ => 0)
    rw [dif_pos hlt, dif_pos hlt]
    exact Classical.choose_spec (hall c hlt)
  · have hk2 : k = 0 ∨ k = 1 := by
      have : k < 2 := (List.getElem?_eq_some_iff.mp hq).1
      omega
    rcases hk2 with e | e
    · subst e
      have e2 : (cI, FieldType.int) = q := Option.some.inj hq
      rw [← e2]
      exact ⟨fun n z => ⟨fun k h => (by cases h), kA, a2, comp, a3⟩, a1⟩
    · subst e
      have e2 : (cR, FieldType.object RX7) = q := Option.some.inj hq
      rw [← e2]
      exact ⟨fun n z => ⟨fun k h => (by cases h), k2, b3, comp2, b4⟩, k2, comp2, b3, b4, b1, b5⟩
  · obtain ⟨a, i, x, h, rfl⟩ := gNW_kind w hw
    exact va_Nw.of rfl (hts _ (gNW_in _ hw))
