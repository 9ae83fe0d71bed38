/-! who sews what: each gap for itself -/
theorem lives_add {K S : Lay} (a : Nat) : ∀ b : Nat, lives K S (a + b) = lives K (lives K S a) b := by
  intro b
  induction b with
  | zero => rfl
  | succ b ih =>
    rw [← Nat.add_assoc, lives, lives, ih]
theorem cl_keep {K : Lay} (hK : vK K) {g : Int} (hg : 0 ≤ g ∧ g < K 0 1) {S : Lay} (hS : vS K S) (h : cl K S g) : ∀ n, cl K (lives K S n) g := by
  have k2 := hK.2.2.1
  refine lives_ind (P := fun T => cl K T g) hK ?_ ?_ ?_ hS h
  · intro T x hx hT hP
    unfold fly
    by_cases c : T 2 x = -4
    · rw [if_pos c]; exact hP
    · rw [if_neg c]
      have hne : g ≠ T 2 x := by
        have := (hT.2.2.1 x hx.1 (by omega)).resolve_left c
        intro z
        rw [← z] at this
        unfold cl at hP
        omega
      unfold cl
      split
      · rw [sset_row (by decide)]; exact hP
      · split
        · rw [sset_fset, fset_ne hne]; exact hP
        · rw [coff_1, sset_fset, fset_ne hne]; exact hP
  · intro T hT hP
    exact (unp_cl hK hg).mpr hP
  · intro T v hP
    unfold cl
    rw [sset_row (by decide)]
    exact hP
theorem cfr_no {K S : Lay} {g : Int} : ∀ (k i : Nat), (cfr K S g i k).1 = -4 → (cfr K S g i k).2 = i + k := by
  intro k
  induction k with
  | zero =>
    intro i
    unfold cfr
    split
    · intro h
      have h : (i : Int) = -4 := h
      omega
    · intro _; rfl
  | succ k ih =>
    intro i
    unfold cfr
    split
    · intro h
      have h : (i : Int) = -4 := h
      omega
    · intro h
      have := ih (i + 1) h
      omega
theorem cfr_end {K : Lay} (hK : vK K) {g : Int} (hg : 0 ≤ g ∧ g < K 0 1) {S : Lay} (hS : vS K S) {n : Nat} : (cfr K S g 0 n).1 ≠ -4 ↔ cl K (lives K S n) g := by
  have hi := cfr_in K S g n 0
  constructor
  · intro h
    have h1 := (cfr_cl _ _).mp h
    have h2 := cl_keep hK hg (vS_lives hK hS _) h1 (n - (cfr K S g 0 n).2)
    rw [← lives_add, show (cfr K S g 0 n).2 + (n - (cfr K S g 0 n).2) = n from by omega] at h2
    exact h2
  · intro h h1
    have h2 := cfr_no n 0 h1
    rw [Nat.zero_add] at h2
    have h3 : ¬ cl K (lives K S (cfr K S g 0 n).2) g := fun z => ((cfr_cl _ _).mpr z) h1
    rw [h2] at h3
    exact h3 h
theorem clos_bit {K S : Lay} {n : Nat} {g : Int} : ∀ N c : Nat, (clos K S n g N).testBit c = true ↔ c < N ∧ (cl K S g ∨ (cfr K (crewS S c g) g 0 n).1 ≠ -4) := by
  intro N
  induction N with
  | zero =>
    intro c
    constructor
    · intro h
      have h : (0 : Nat).testBit c = true := h
      rw [Nat.zero_testBit] at h
      exact absurd h (by decide)
    · intro h; omega
  | succ N ih =>
    intro c
    unfold clos
    split
    · rename_i q
      rw [or_bit, ih]
      constructor
      · rintro (h | h)
        · exact ⟨by omega, h.2⟩
        · rw [h]
          exact ⟨by omega, q⟩
      · rintro ⟨h1, h2⟩
        by_cases z : c = N
        · exact Or.inr z
        · exact Or.inl ⟨by omega, h2⟩
    · rename_i q
      rw [ih]
      constructor
      · rintro ⟨h1, h2⟩
        exact ⟨by omega, h2⟩
      · rintro ⟨h1, h2⟩
        refine ⟨?_, h2⟩
        by_cases z : c = N
        · rw [z] at h2
          exact absurd h2 q
        · omega
/-- goals given to all -/
def asg (K S : Lay) (A : Int → Int) : Lay := fun b x => if b = 2 ∧ 0 ≤ x ∧ x < 4 then (if x < K 0 2 then A x else -4) else S b x
def okA (K S : Lay) (A : Int → Int) : Prop := ∀ x, 0 ≤ x → x < K 0 2 → A x = -4 ∨ (0 ≤ A x ∧ A x < K 0 1 ∧ ¬ cl K S (A x))
theorem vS_asg {K S : Lay} (hS : vS K S) {A : Int → Int} (hA : okA K S A) : vS K (asg K S A) := by
  obtain ⟨s0, s1, s2, s3⟩ := hS
  have e0 : asg K S A 0 0 = S 0 0 := if_neg (by omega)
  have e1 : ∀ g, asg K S A 1 g = S 1 g := fun g => if_neg (by omega)
  have e3 : ∀ g, asg K S A 3 g = S 3 g := fun g => if_neg (by omega)
  refine ⟨by rw [e0]; exact s0, fun g g1 g2 => by rw [e1]; exact s1 g g1 g2, fun x x1 x2 => ?_, fun x x1 x2 => by rw [e3]; exact s3 x x1 x2⟩
  have e2 : asg K S A 2 x = if x < K 0 2 then A x else -4 := if_pos ⟨rfl, x1, x2⟩
  rw [e2]
  by_cases c : x < K 0 2
  · rw [if_pos c]
    rcases hA x x1 c with h | h
    · exact Or.inl h
    · refine Or.inr ⟨c, h.1, h.2.1, ?_⟩
      rw [e1]
      have := h.2.2
      unfold cl at this
      omega
  · rw [if_neg c]
    exact Or.inl rfl
/-- two runs that agree about one gap -/
def twin (K : Lay) (g : Int) (c : Nat) (T U : Lay) : Prop := T 0 0 = U 0 0 ∧ T 1 g = U 1 g ∧ ∀ x, 0 ≤ x → x < 4 → (c.testBit x.toNat = true → T 2 x = U 2 x ∧ T 3 x = U 3 x ∧ (T 2 x = g ∨ T 2 x = -4)) ∧ (¬ c.testBit x.toNat = true → U 2 x = -4 ∧ T 2 x ≠ g)
theorem twin_fly {K : Lay} {g : Int} (hg : 0 ≤ g) {c : Nat} {T U : Lay} (h : twin K g c T U) {x : Int} (hx : 0 ≤ x ∧ x < 4) : twin K g c (fly K T x) (fly K U x) := by
  obtain ⟨h0, h1, h2⟩ := id h
  obtain ⟨p1, p2⟩ := h2 x hx.1 hx.2
  by_cases q : c.testBit x.toNat = true
  · obtain ⟨a1, a2, a3⟩ := p1 q
    by_cases z : T 2 x = -4
    · have e1 : fly K T x = T := by unfold fly; rw [if_pos z]
      have e2 : fly K U x = U := by unfold fly; rw [if_pos (by rw [← a1]; exact z)]
      rw [e1, e2]
      exact h
    · have hT := a3.resolve_right z
      have hU : U 2 x = g := by rw [← a1]; exact hT
      unfold fly
      rw [if_neg z, if_neg (show ¬ U 2 x = -4 from by rw [← a1]; exact z), hT, hU, a2, h1]
      split
      · refine ⟨by rw [sset_row (by decide), sset_row (by decide)]; exact h0, by rw [sset_row (by decide), sset_row (by decide)]; exact h1, fun i i1 i2 => ⟨fun b => ?_, fun b => ?_⟩⟩
        · obtain ⟨b1, b2, b3⟩ := (h2 i i1 i2).1 b
          rw [sset_row (by decide), sset_row (by decide), sset_fset, sset_fset]
          refine ⟨b1, ?_, b3⟩
          by_cases y : i = x
          · rw [y, fset_at, fset_at]
          · rw [fset_ne y, fset_ne y]
            exact b2
        · rw [sset_row (by decide), sset_row (by decide)]
          exact (h2 i i1 i2).2 b
      · split
        · refine ⟨by rw [sset_row (by decide), sset_row (by decide)]; exact h0, by rw [sset_at, sset_at], fun i i1 i2 => ⟨fun b => ?_, fun b => ?_⟩⟩
          · rw [sset_row (by decide), sset_row (by decide), sset_row (by decide), sset_row (by decide)]
            exact (h2 i i1 i2).1 b
          · rw [sset_row (by decide), sset_row (by decide)]
            exact (h2 i i1 i2).2 b
        · have e0 : ∀ (V : Lay) (j : Int), coff V g 0 j = V 0 j := fun V j => if_neg (by omega)
          refine ⟨by rw [e0, e0, sset_row (by decide), sset_row (by decide)]; exact h0, by rw [coff_1, coff_1, sset_at, sset_at], fun i i1 i2 => ⟨fun b => ?_, fun b => ?_⟩⟩
          · obtain ⟨b1, b2, b3⟩ := (h2 i i1 i2).1 b
            rw [coff_2 ⟨i1, i2⟩, coff_2 ⟨i1, i2⟩, coff_3, coff_3, sset_row (by decide), sset_row (by decide), sset_row (by decide), sset_row (by decide), b1]
            refine ⟨rfl, b2, ?_⟩
            split
            · exact Or.inr rfl
            · rw [← b1]; exact b3
          · obtain ⟨b1, b2⟩ := (h2 i i1 i2).2 b
            rw [coff_2 ⟨i1, i2⟩, coff_2 ⟨i1, i2⟩, sset_row (by decide), sset_row (by decide), b1, if_neg (show ¬ (-4 : Int) = g by omega), if_neg b2]
            exact ⟨rfl, b2⟩
  · obtain ⟨a1, a2⟩ := p2 q
    have e2 : fly K U x = U := by unfold fly; rw [if_pos a1]
    rw [e2]
    unfold fly
    by_cases z : T 2 x = -4
    · rw [if_pos z]; exact h
    · rw [if_neg z]
      split
      · refine ⟨by rw [sset_row (by decide)]; exact h0, by rw [sset_row (by decide)]; exact h1, fun i i1 i2 => ⟨fun b => ?_, fun b => ?_⟩⟩
        · have y : i ≠ x := fun y => q (by rw [← y]; exact b)
          rw [sset_row (by decide), sset_fset, fset_ne y]
          exact (h2 i i1 i2).1 b
        · rw [sset_row (by decide)]
          exact (h2 i i1 i2).2 b
      · split
        · refine ⟨by rw [sset_row (by decide)]; exact h0, by rw [sset_fset, fset_ne (fun y => a2 y.symm)]; exact h1, fun i i1 i2 => ⟨fun b => ?_, fun b => ?_⟩⟩
          · rw [sset_row (by decide), sset_row (by decide)]
            exact (h2 i i1 i2).1 b
          · rw [sset_row (by decide)]
            exact (h2 i i1 i2).2 b
        · have e0 : ∀ (V : Lay) (j k : Int), coff V k 0 j = V 0 j := fun V j k => if_neg (by omega)
          refine ⟨by rw [e0, sset_row (by decide)]; exact h0, by rw [coff_1, sset_fset, fset_ne (fun y => a2 y.symm)]; exact h1, fun i i1 i2 => ⟨fun b => ?_, fun b => ?_⟩⟩
          · obtain ⟨b1, b2, b3⟩ := (h2 i i1 i2).1 b
            rw [coff_2 ⟨i1, i2⟩, coff_3, sset_row (by decide), sset_row (by decide), if_neg (by omega)]
            exact ⟨b1, b2, b3⟩
          · obtain ⟨b1, b2⟩ := (h2 i i1 i2).2 b
            rw [coff_2 ⟨i1, i2⟩, sset_row (by decide)]
            refine ⟨b1, ?_⟩
            split
            · omega
            · exact b2
theorem twin_flies {K : Lay} {g : Int} (hg : 0 ≤ g) {c : Nat} {T U : Lay} (h : twin K g c T U) : ∀ n : Nat, n ≤ 4 → twin K g c (flies K T n) (flies K U n) := by
  intro n
  induction n with
  | zero => intro _; exact h
  | succ n ih =>
    intro hn
    rw [flies, flies]
    exact twin_fly hg (ih (by omega)) (by omega)
theorem twin_live {K : Lay} (hK : vK K) {g : Int} (hg : 0 ≤ g) {c : Nat} {T U : Lay} (h : twin K g c T U) (q : Prop) [Decidable q] : twin K g c (live K T q) (live K U q) := by
  have k2 := hK.2.2.1
  have hh : ∀ (T U : Lay) (v : Int), twin K g c T U → twin K g c (sset T 0 0 v) (sset U 0 0 v) := by
    rintro T U v ⟨h0, h1, h2⟩
    refine ⟨by rw [sset_at, sset_at], by rw [sset_row (by decide), sset_row (by decide)]; exact h1, fun i i1 i2 => ?_⟩
    rw [sset_row (by decide), sset_row (by decide), sset_row (by decide), sset_row (by decide)]
    exact h2 i i1 i2
  have hu : ∀ T U : Lay, twin K g c T U → twin K g c (unp K T) (unp K U) := by
    rintro T U ⟨h0, h1, h2⟩
    refine ⟨by rw [unp_h, unp_h]; exact h0, ?_, fun i i1 i2 => ?_⟩
    · unfold unp
      rw [h1]
    · rw [unp_2, unp_2, unp_3, unp_3]
      exact h2 i i1 i2
  unfold live
  rw [h.1]
  refine hh _ _ _ ?_
  by_cases d : U 0 0 % 24 < K 0 3
  · rw [if_pos d, if_pos d]
    split
    · exact hu _ _ (twin_flies hg h _ (by omega))
    · exact twin_flies hg h _ (by omega)
  · rw [if_neg d, if_neg d]
    split
    · exact hu _ _ h
    · exact h
theorem twin_lives {K : Lay} (hK : vK K) {g : Int} (hg : 0 ≤ g) {c : Nat} {T U : Lay} (h : twin K g c T U) : ∀ n, twin K g c (lives K T n) (lives K U n) := by
  intro n
  induction n with
  | zero => exact h
  | succ n ih =>
    rw [lives, lives, ih.1]
    exact twin_live hK hg ih _
def crw (K : Lay) (A : Int → Int) (g : Int) (c : Nat) : Prop := ∀ i : Nat, c.testBit i = true ↔ ((i : Int) < K 0 2 ∧ A i = g)
theorem alone_same {K S : Lay} (hK : vK K) {A : Int → Int} {g : Int} (hg : 0 ≤ g ∧ g < K 0 1) {c : Nat} (hc : crw K A g c) : ∀ n, (cl K (lives K (asg K S A) n) g ↔ cl K (lives K (crewS S c g) n) g) := by
  intro n
  have k2 := hK.2.2.1
  have h0 : twin K g c (asg K S A) (crewS S c g) := by
    refine ⟨?_, ?_, fun x x1 x2 => ?_⟩
    · show (if _ then _ else _) = (if _ then _ else _)
      rw [if_neg (by omega), if_neg (by omega)]
    · show (if _ then _ else _) = (if _ then _ else _)
      rw [if_neg (by omega), if_neg (by omega)]
    · have e2 : asg K S A 2 x = if x < K 0 2 then A x else -4 := if_pos ⟨rfl, x1, x2⟩
      have e3 : asg K S A 3 x = S 3 x := if_neg (by omega)
      have f2 : crewS S c g 2 x = if c.testBit x.toNat = true then g else -4 := if_pos ⟨rfl, x1, x2⟩
      have f3 : crewS S c g 3 x = S 3 x := if_neg (by omega)
      have hb := hc x.toNat
      rw [show ((x.toNat : Nat) : Int) = x from by omega] at hb
      rw [e2, e3, f2, f3]
      refine ⟨fun b => ?_, fun b => ?_⟩
      · obtain ⟨b1, b2⟩ := hb.mp b
        rw [if_pos b1, if_pos b, b2]
        exact ⟨rfl, rfl, Or.inl rfl⟩
      · rw [if_neg b]
        refine ⟨rfl, ?_⟩
        split
        · rename_i y
          exact fun z => b (hb.mpr ⟨y, z⟩)
        · omega
  have h1 := twin_lives hK hg.1 h0 n
  unfold cl
  rw [h1.2.1]
abbrev Lg (K S : Lay) (n : Nat) : Int → Nat := fun g => clos K S n g (2 ^ (K 0 2).toNat)
def cnt (K S : Lay) (n : Nat) (C : Int → Nat) : Nat → Int
  | 0 => 0
  | g + 1 => cnt K S n C g + (if (g : Int) < K 0 1 then (if cl K S g then 1 else bit (Lg K S n g) (C g)) else 0)
theorem crw_lt {K : Lay} (hK : vK K) {A : Int → Int} {g : Int} {c : Nat} (hc : crw K A g c) : c < 2 ^ (K 0 2).toNat := by
  refine Nat.lt_pow_two_of_testBit c (fun i hi => ?_)
  cases h : c.testBit i
  · rfl
  · have := (hc i).mp h
    have k2 := hK.2.2.1
    omega
theorem cnt_pop {K S : Lay} (hK : vK K) (hS : vS K S) {A : Int → Int} (hA : okA K S A) {C : Int → Nat} (hC : ∀ g, 0 ≤ g → g < K 0 1 → crw K A g (C g)) {n : Nat} : ((pop (cb K (lives K (asg K S A) n)) : Nat) : Int) = cnt K S n C 8 := by
  have key : ∀ m : Nat, ((popN (cb K (lives K (asg K S A) n)) m : Nat) : Int) = cnt K S n C m := by
    intro m
    induction m with
    | zero => rfl
    | succ m ih =>
      unfold popN cnt
      by_cases hm : (m : Int) < K 0 1
      · rw [if_pos hm]
        have hb := cb_bit (K := K) (S := lives K (asg K S A) n) (g := m) hm
        have hc := hC m (by omega) hm
        by_cases c0 : cl K S m
        · rw [if_pos c0]
          have c1 : cl K (asg K S A) m := by
            unfold cl
            have e1 : asg K S A 1 m = S 1 m := if_neg (by omega)
            rw [e1]
            exact c0
          have c2 := cl_keep hK ⟨by omega, hm⟩ (vS_asg hS hA) c1 n
          rw [if_pos (hb.mpr c2)]
          omega
        · rw [if_neg c0]
          have hv : vS K (crewS S (C m) m) := vS_crew hK hS (crw_lt hK hc) ⟨by omega, hm⟩ (by unfold cl at c0; omega)
          have h1 := alone_same (S := S) hK ⟨by omega, hm⟩ hc n
          have h2 := cfr_end hK ⟨by omega, hm⟩ hv (n := n)
          have h3 := clos_bit (K := K) (S := S) (n := n) (g := m) (2 ^ (K 0 2).toNat) (C m)
          unfold bit
          by_cases q : (cb K (lives K (asg K S A) n)).testBit m = true
          · rw [if_pos q, if_pos (h3.mpr ⟨crw_lt hK hc, Or.inr (h2.mpr (h1.mp (hb.mp q)))⟩)]
            omega
          · rw [if_neg q, if_neg (fun z => (h3.mp z).2.elim c0 (fun y => q (hb.mpr (h1.mpr (h2.mp y)))))]
            omega
      · rw [if_neg hm, if_neg (fun z => by
          have := (cbs_bit _ _).mp z
          omega)]
        omega
  exact key 8
theorem cnt_nset {K S : Lay} {n : Nat} {C : Int → Nat} {g v : Nat} (hg : (g : Int) < K 0 1) (hc : ¬ cl K S g) : ∀ m : Nat, cnt K S n (nset C g v) m = if g < m then cnt K S n C m - bit (Lg K S n g) (C g) + bit (Lg K S n g) v else cnt K S n C m := by
  intro m
  induction m with
  | zero => rw [if_neg (by omega)]; rfl
  | succ m ih =>
    unfold cnt
    rw [ih]
    by_cases z : m = g
    · subst z
      have e : nset C m v m = v := if_pos rfl
      rw [e]
      (repeat' split) <;> first | omega | contradiction
    · have e : nset C g v m = C m := if_neg (by omega)
      rw [e]
      (repeat' split) <;> first | omega | contradiction
