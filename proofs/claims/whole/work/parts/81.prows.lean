/-! rows of gaps, one stitcher alone -/
theorem live_ind {K : Lay} {P : Lay → Prop} (hK : vK K) (hf : ∀ T y, (0 ≤ y ∧ y < K 0 2) → vS K T → P T → P (fly K T y)) (hu : ∀ T, vS K T → P T → P (unp K T)) (hh : ∀ T v, P T → P (sset T 0 0 v)) {S : Lay} (hS : vS K S) (hP : P S) (q : Prop) [Decidable q] : P (live K S q) := by
  have h1 : ∀ n : Nat, (n : Int) ≤ K 0 2 → P (flies K S n) := by
    intro n
    induction n with
    | zero => intro _; exact hP
    | succ n ih =>
      intro hn
      rw [flies]
      exact hf _ _ (by omega) (vS_flies hK hS n (by omega)) (ih (by omega))
  have k2 := hK.2.2.1
  unfold live
  refine hh _ _ ?_
  by_cases c : S 0 0 % 24 < K 0 3
  · rw [if_pos c]
    split
    · exact hu _ (vS_flies hK hS _ (by omega)) (h1 _ (by omega))
    · exact h1 _ (by omega)
  · rw [if_neg c]
    split
    · exact hu _ hS hP
    · exact hP
theorem lives_ind {K : Lay} {P : Lay → Prop} (hK : vK K) (hf : ∀ T y, (0 ≤ y ∧ y < K 0 2) → vS K T → P T → P (fly K T y)) (hu : ∀ T, vS K T → P T → P (unp K T)) (hh : ∀ T v, P T → P (sset T 0 0 v)) {S : Lay} (hS : vS K S) (hP : P S) : ∀ n, P (lives K S n) := by
  intro n
  induction n with
  | zero => exact hP
  | succ n ih => exact live_ind hK hf hu hh (vS_lives hK hS n) ih _
abbrev cl (K T : Lay) (g : Int) : Prop := K 1 (5 * g + 4) ≤ T 1 g
theorem unp_cl {K T : Lay} (hK : vK K) {g : Int} (hg : 0 ≤ g ∧ g < K 0 1) : cl K (unp K T) g ↔ cl K T g := by
  obtain ⟨q0, q1, q2, q3, q4, q5⟩ := hK.2.2.2.2.2.1 g hg.1 hg.2
  unfold cl unp
  by_cases c : T 1 g < K 1 (5 * g + 4)
  · rw [if_pos ⟨rfl, hg.1, hg.2, c⟩]
    split <;> split <;> omega
  · rw [if_neg (fun z => c z.2.2.2)]
theorem unp_2 {K T : Lay} {i : Int} : unp K T 2 i = T 2 i := by
  unfold unp
  rw [if_neg (by omega)]
theorem unp_3 {K T : Lay} {i : Int} : unp K T 3 i = T 3 i := by
  unfold unp
  rw [if_neg (by omega)]
theorem coff_1 {T : Lay} {g i : Int} : coff T g 1 i = T 1 i := by
  unfold coff
  rw [if_neg (by omega)]
theorem coff_3 {T : Lay} {g i : Int} : coff T g 3 i = T 3 i := by
  unfold coff
  rw [if_neg (by omega)]
theorem coff_2 {T : Lay} {g i : Int} (hi : 0 ≤ i ∧ i < 4) : coff T g 2 i = if T 2 i = g then -4 else T 2 i := by
  unfold coff
  by_cases h : T 2 i = g
  · rw [if_pos h, if_pos ⟨rfl, hi.1, hi.2, h⟩]
  · rw [if_neg h, if_neg (fun z => h z.2.2.2)]
/-- of a stitcher alone with its gap -/
def alo (K : Lay) (y g : Int) (U : Int → Prop) (T : Lay) : Prop := (∀ i, 0 ≤ i → i < 4 → i ≠ y → T 2 i = -4) ∧ (T 2 y = g ∨ T 2 y = -4) ∧ ∀ g', 0 ≤ g' → g' < K 0 1 → g' ≠ g → (cl K T g' ↔ U g')
theorem alo_lives {K : Lay} (hK : vK K) {y g : Int} (hy : 0 ≤ y ∧ y < K 0 2) {U : Int → Prop} {S : Lay} (hS : vS K S) (h : alo K y g U S) : ∀ n, alo K y g U (lives K S n) := by
  have k2 := hK.2.2.1
  refine lives_ind hK ?_ ?_ ?_ hS h
  · intro T i hi hT hP
    obtain ⟨p1, p2, p3⟩ := hP
    unfold fly
    by_cases c : T 2 i = -4
    · rw [if_pos c]
      exact ⟨p1, p2, p3⟩
    · rw [if_neg c]
      have hiy : i = y := by
        apply Classical.byContradiction
        intro z
        exact c (p1 i hi.1 (by omega) z)
      subst hiy
      have hg : T 2 i = g := p2.resolve_right c
      rw [hg]
      split
      · refine ⟨fun j j1 j2 j3 => by rw [sset_row (by decide)]; exact p1 j j1 j2 j3, by rw [sset_row (by decide)]; exact p2, fun g' g1 g2 g3 => by unfold cl; rw [sset_row (by decide)]; exact p3 g' g1 g2 g3⟩
      · split
        · refine ⟨fun j j1 j2 j3 => by rw [sset_row (by decide)]; exact p1 j j1 j2 j3, by rw [sset_row (by decide)]; exact p2, fun g' g1 g2 g3 => by unfold cl; rw [sset_fset, fset_ne g3]; exact p3 g' g1 g2 g3⟩
        · refine ⟨fun j j1 j2 j3 => ?_, ?_, fun g' g1 g2 g3 => by unfold cl; rw [coff_1, sset_fset, fset_ne g3]; exact p3 g' g1 g2 g3⟩
          · rw [coff_2 ⟨j1, j2⟩, sset_row (by decide), p1 j j1 j2 j3]
            split <;> rfl
          · rw [coff_2 (by omega), sset_row (by decide), if_pos hg]
            exact Or.inr rfl
  · intro T hT hP
    obtain ⟨p1, p2, p3⟩ := hP
    exact ⟨fun j j1 j2 j3 => by rw [unp_2]; exact p1 j j1 j2 j3, by rw [unp_2]; exact p2, fun g' g1 g2 g3 => (unp_cl hK ⟨g1, g2⟩).trans (p3 g' g1 g2 g3)⟩
  · intro T v hP
    obtain ⟨p1, p2, p3⟩ := hP
    exact ⟨fun j j1 j2 j3 => by rw [sset_row (by decide)]; exact p1 j j1 j2 j3, by rw [sset_row (by decide)]; exact p2, fun g' g1 g2 g3 => by unfold cl; rw [sset_row (by decide)]; exact p3 g' g1 g2 g3⟩
theorem cfr_cl {K S : Lay} {g : Int} : ∀ (k i : Nat), ((cfr K S g i k).1 ≠ -4 ↔ cl K (lives K S (cfr K S g i k).2) g) := by
  intro k
  induction k with
  | zero =>
    intro i
    unfold cfr
    by_cases c : K 1 (5 * g + 4) ≤ (lives K S i) 1 g
    · rw [if_pos c]
      exact ⟨fun _ => c, fun _ => by show (i : Int) ≠ -4; omega⟩
    · rw [if_neg c]
      exact ⟨fun z => absurd rfl z, fun z => absurd z c⟩
  | succ k ih =>
    intro i
    unfold cfr
    by_cases c : K 1 (5 * g + 4) ≤ (lives K S i) 1 g
    · rw [if_pos c]
      exact ⟨fun _ => c, fun _ => by show (i : Int) ≠ -4; omega⟩
    · rw [if_neg c]
      exact ih (i + 1)
/-- a gap more in the row -/
def ext (K : Lay) (y n h : Int) (T : Lay) (g : Int) : Option (Int × Lay) := if cl K T g then none else if (cfr K (sset T 2 y g) g 0 (n - h).toNat).1 = -4 then none else some (h + (cfr K (sset T 2 y g) g 0 (n - h).toNat).1, lives K (sset T 2 y g) (cfr K (sset T 2 y g) g 0 (n - h).toNat).2)
def inv (K : Lay) (T : Lay) (u : Nat) : Prop := vS K T ∧ (∀ i, 0 ≤ i → i < 4 → T 2 i = -4) ∧ ∀ g, 0 ≤ g → g < K 0 1 → (cl K T g ↔ u.testBit g.toNat = true)
theorem or_bit {u g i : Nat} : (u ||| 2 ^ g).testBit i = true ↔ u.testBit i = true ∨ i = g := by
  rw [Nat.testBit_or, Bool.or_eq_true, Nat.testBit_two_pow, decide_eq_true_eq]
  constructor
  · rintro (h | h)
    · exact Or.inl h
    · exact Or.inr h.symm
  · rintro (h | h)
    · exact Or.inl h
    · exact Or.inr h.symm
theorem aim_v {K : Lay} (hK : vK K) {T : Lay} {u : Nat} (hI : inv K T u) {y g : Int} (hy : 0 ≤ y ∧ y < K 0 2) (hg : 0 ≤ g ∧ g < K 0 1) (hc : ¬ cl K T g) : vS K (sset T 2 y g) := vS_aim hK hI.1 hy (Or.inr ⟨hg.1, hg.2, by unfold cl at hc; omega⟩)
theorem aim_i {K : Lay} (hK : vK K) {T : Lay} {u : Nat} (hI : inv K T u) {y g : Int} (hy : 0 ≤ y ∧ y < K 0 2) (hg : 0 ≤ g ∧ g < K 0 1) (hc : ¬ cl K T g) {m : Nat} (hm : cl K (lives K (sset T 2 y g) m) g) : inv K (lives K (sset T 2 y g) m) (u ||| 2 ^ g.toNat) := by
  have k2 := hK.2.2.1
  have hv := aim_v hK hI hy hg hc
  have h0 : alo K y g (fun g' => u.testBit g'.toNat = true) (sset T 2 y g) := by
    refine ⟨fun i i1 i2 i3 => by rw [sset_fset, fset_ne i3]; exact hI.2.1 i i1 i2, Or.inl sset_at, fun g' g1 g2 g3 => by unfold cl; rw [sset_row (by decide)]; exact hI.2.2 g' g1 g2⟩
  obtain ⟨p1, p2, p3⟩ := alo_lives hK hy hv h0 m
  have hvm := vS_lives hK hv m
  have hy4 : (lives K (sset T 2 y g) m) 2 y = -4 := by
    rcases p2 with e | e
    · rcases hvm.2.2.1 y hy.1 (by omega) with e2 | e2
      · exact e2
      · rw [e] at e2
        unfold cl at hm
        omega
    · exact e
  refine ⟨hvm, fun i i1 i2 => ?_, fun g' g1 g2 => ?_⟩
  · by_cases z : i = y
    · rw [z]; exact hy4
    · exact p1 i i1 i2 z
  · rw [or_bit]
    by_cases z : g' = g
    · subst z
      exact ⟨fun _ => Or.inr rfl, fun _ => hm⟩
    · rw [p3 g' g1 g2 z]
      exact ⟨Or.inl, fun h => h.resolve_right (by omega)⟩
theorem ext_inv {K : Lay} (hK : vK K) {y n h g : Int} {T : Lay} {u : Nat} (hI : inv K T u) (hy : 0 ≤ y ∧ y < K 0 2) (hg : 0 ≤ g ∧ g < K 0 1) (hh : 0 ≤ h ∧ h ≤ n) {h' : Int} {T' : Lay} (he : ext K y n h T g = some (h', T')) : inv K T' (u ||| 2 ^ g.toNat) ∧ (h ≤ h' ∧ h' ≤ n) ∧ T' 0 0 = T 0 0 + (h' - h) := by
  unfold ext at he
  by_cases c : cl K T g
  · rw [if_pos c] at he
    exact absurd he (by simp)
  · rw [if_neg c] at he
    by_cases c2 : (cfr K (sset T 2 y g) g 0 (n - h).toNat).1 = -4
    · rw [if_pos c2] at he
      exact absurd he (by simp)
    · rw [if_neg c2] at he
      have hi := cfr_in K (sset T 2 y g) g (n - h).toNat 0
      have e1 : h + (cfr K (sset T 2 y g) g 0 (n - h).toNat).1 = h' := congrArg Prod.fst (Option.some.inj he)
      have e2 : lives K (sset T 2 y g) (cfr K (sset T 2 y g) g 0 (n - h).toNat).2 = T' := congrArg Prod.snd (Option.some.inj he)
      have hr := hi.2.resolve_left c2
      refine ⟨?_, by omega, ?_⟩
      · rw [← e2]
        exact aim_i hK hI hy hg c ((cfr_cl _ _).mp c2)
      · rw [← e2, lives_h, sset_row (by decide)]
        omega
/-- the states along a row of gaps -/
def rw2 (K S : Lay) (y n : Int) (D : Nat → Int) : Nat → Option (Int × Lay)
  | 0 => some (0, aoff S)
  | k + 1 => (rw2 K S y n D k).bind (fun p => ext K y n p.1 p.2 (D k))
def usd (s : Nat) (D : Nat → Int) : Nat → Nat
  | 0 => s
  | k + 1 => if D k < 0 then usd s D k else usd s D k ||| 2 ^ (D k).toNat
theorem aoff_2 {S : Lay} {i : Int} (hi : 0 ≤ i ∧ i < 4) : aoff S 2 i = -4 := if_pos ⟨rfl, hi.1, hi.2⟩
theorem aoff_1 {S : Lay} {i : Int} : aoff S 1 i = S 1 i := if_neg (by omega)
theorem aoff_0 {S : Lay} : aoff S 0 0 = S 0 0 := if_neg (by omega)
theorem rw2_inv {K S : Lay} (hK : vK K) (hS : vS K S) {y n : Int} (hy : 0 ≤ y ∧ y < K 0 2) (hn : 0 ≤ n) {D : Nat → Int} : ∀ k : Nat, (∀ j, j < k → 0 ≤ D j ∧ D j < K 0 1) → ∀ h T, rw2 K S y n D k = some (h, T) → inv K T (usd (cb K S) D k) ∧ (0 ≤ h ∧ h ≤ n) ∧ T 0 0 = S 0 0 + h := by
  intro k
  induction k with
  | zero =>
    intro _ h T he
    have e := Prod.mk.inj (Option.some.inj he)
    rw [← e.1, ← e.2]
    refine ⟨⟨vS_aoff hS, fun i i1 i2 => aoff_2 ⟨i1, i2⟩, fun g g1 g2 => ?_⟩, by omega, by rw [aoff_0]; omega⟩
    unfold cl
    rw [aoff_1]
    have hb := cb_bit (K := K) (S := S) (g := g.toNat) (by omega)
    rw [show ((g.toNat : Nat) : Int) = g from by omega] at hb
    exact hb.symm
  | succ k ih =>
    intro hD h T he
    rw [rw2] at he
    rcases hp : rw2 K S y n D k with _ | ⟨h1, T1⟩
    · rw [hp] at he
      exact absurd he (by simp)
    · rw [hp] at he
      obtain ⟨i1, i2, i3⟩ := ih (fun j hj => hD j (by omega)) h1 T1 hp
      obtain ⟨e1, e2, e3⟩ := ext_inv hK i1 hy (hD k (by omega)) i2 (show ext K y n h1 T1 (D k) = some (h, T) from he)
      have hk := hD k (by omega)
      refine ⟨?_, by omega, by omega⟩
      rw [usd, if_neg (by omega)]
      exact e1
theorem rw2_none {K S : Lay} {y n : Int} {D : Nat → Int} {k : Nat} (h : rw2 K S y n D k = none) : ∀ m, rw2 K S y n D (k + m) = none := by
  intro m
  induction m with
  | zero => exact h
  | succ m ih =>
    rw [← Nat.add_assoc, rw2, ih]
    rfl
theorem rw2_taken {K S : Lay} (hK : vK K) (hS : vS K S) {y n : Int} (hy : 0 ≤ y ∧ y < K 0 2) (hn : 0 ≤ n) {D : Nat → Int} {m j : Nat} (hj : j < m) (hD : ∀ i, i < m → 0 ≤ D i ∧ D i < K 0 1) (hu : (usd (cb K S) D j).testBit (D j).toNat = true) : rw2 K S y n D m = none := by
  have h1 : rw2 K S y n D (j + 1) = none := by
    rw [rw2]
    rcases hp : rw2 K S y n D j with _ | ⟨h1, T1⟩
    · rfl
    · obtain ⟨i1, i2, i3⟩ := rw2_inv hK hS hy hn j (fun i hi => hD i (by omega)) h1 T1 hp
      have hd := hD j hj
      exact if_pos ((i1.2.2 _ hd.1 hd.2).mpr hu)
  have := rw2_none h1 (m - (j + 1))
  rw [show j + 1 + (m - (j + 1)) = m from by omega] at this
  exact this
/-- how many gaps a row has; whether its form is one -/
def mny (D : Nat → Int) : Nat → Int
  | 0 => 0
  | k + 1 => mny D k + (if D k < 0 then 0 else 1)
def gdd (s : Nat) (D : Nat → Int) : Nat → Bool
  | 0 => true
  | k + 1 => gdd s D k && decide (D k < 0 ∨ (mny D k = (k : Int) ∧ ¬ (usd s D k).testBit (D k).toNat = true))
def vhD (K S : Lay) (y n : Int) (D : Nat → Int) : Option Int := if 0 ≤ D 0 ∧ (0 ≤ D 1 ∨ D 2 < 0) then (rw2 K S y n D (mny D 3).toNat).map Prod.fst else none
