/-! what hangs together: labels and what is reached -/
theorem bit_ext {P Q : Nat} (h : ∀ i, P.testBit i = Q.testBit i) : P = Q := Nat.eq_of_testBit_eq h
theorem bit_ge {P i : Nat} (hP : P < 256) (hi : 8 ≤ i) : P.testBit i = false :=
  Nat.testBit_lt_two_pow (Nat.lt_of_lt_of_le hP (Nat.pow_le_pow_right (show 0 < 2 by decide) hi))
theorem ends_bit {K : Lay} {g : Int} {i : Nat} : (ends K g).testBit i = true ↔ i = (K 1 (5 * g + 1)).toNat ∨ i = (K 1 (5 * g + 2)).toNat := by
  unfold ends
  rw [Nat.testBit_or, Nat.testBit_two_pow, Nat.testBit_two_pow]
  simp only [Bool.or_eq_true, decide_eq_true_eq]
  constructor
  · rintro (h | h)
    · exact Or.inl h.symm
    · exact Or.inr h.symm
  · rintro (h | h)
    · exact Or.inl h.symm
    · exact Or.inr h.symm
theorem and_ne {P e : Nat} : P &&& e ≠ 0 ↔ ∃ i, P.testBit i = true ∧ e.testBit i = true := by
  constructor
  · intro h
    apply Classical.byContradiction
    intro hn
    apply h
    apply bit_ext
    intro i
    rw [Nat.testBit_and, Nat.zero_testBit]
    cases h1 : P.testBit i
    · rfl
    · cases h2 : e.testBit i
      · rfl
      · exact absurd ⟨i, h1, h2⟩ hn
  · rintro ⟨i, h1, h2⟩ h
    have h3 : (P &&& e).testBit i = true := by rw [Nat.testBit_and, h1, h2]; rfl
    rw [h, Nat.zero_testBit] at h3
    exact absurd h3 (by decide)
theorem onw_in {K : Lay} {s P : Nat} {C : Nat → Prop} : ∀ n : Nat, (∀ g : Nat, g < n → s.testBit g = true → (C (K 1 (5 * (g : Int) + 1)).toNat ↔ C (K 1 (5 * (g : Int) + 2)).toNat)) → (∀ i, P.testBit i = true → C i) → ∀ i, (onw K s P n).testBit i = true → C i := by
  intro n
  induction n with
  | zero => intro _ hP i h; exact hP i h
  | succ n ih =>
    intro hc hP i h
    unfold onw at h
    split at h
    · rename_i q
      rw [Nat.testBit_or, Bool.or_eq_true] at h
      rcases h with h | h
      · exact ih (fun g hg => hc g (by omega)) hP i h
      · obtain ⟨j, j1, j2⟩ := and_ne.mp q.2
        have hj := hP j j1
        have hcn := hc n (by omega) q.1
        rw [ends_bit] at j2 h
        have hA : C (K 1 (5 * (n : Int) + 1)).toNat := by
          rcases j2 with e | e
          · rw [← e]; exact hj
          · rw [hcn, ← e]; exact hj
        rcases h with e | e
        · rw [e]; exact hA
        · rw [e]; exact hcn.mp hA
    · exact ih (fun g hg => hc g (by omega)) hP i h
theorem onw_has {K : Lay} {s P g : Nat} (hg : s.testBit g = true) (hp : P.testBit (K 1 (5 * (g : Int) + 1)).toNat = true ∨ P.testBit (K 1 (5 * (g : Int) + 2)).toNat = true) : ∀ n : Nat, g < n → (onw K s P n).testBit (K 1 (5 * (g : Int) + 1)).toNat = true ∧ (onw K s P n).testBit (K 1 (5 * (g : Int) + 2)).toNat = true := by
  intro n
  induction n with
  | zero => intro h; omega
  | succ n ih =>
    intro h
    unfold onw
    by_cases z : g = n
    · subst z
      have hne : P &&& ends K (g : Int) ≠ 0 := by
        rw [and_ne]
        rcases hp with h | h
        · exact ⟨_, h, ends_bit.mpr (Or.inl rfl)⟩
        · exact ⟨_, h, ends_bit.mpr (Or.inr rfl)⟩
      rw [if_pos ⟨hg, hne⟩, Nat.testBit_or, Nat.testBit_or, ends_bit.mpr (Or.inl rfl), ends_bit.mpr (Or.inr rfl), Bool.or_true, Bool.or_true]
      exact ⟨rfl, rfl⟩
    · obtain ⟨h1, h2⟩ := ih (by omega)
      split
      · rw [Nat.testBit_or, Nat.testBit_or, h1, h2, Bool.true_or, Bool.true_or]
        exact ⟨rfl, rfl⟩
      · exact ⟨h1, h2⟩
theorem popN_sub {P Q : Nat} (h : ∀ i, P.testBit i = true → Q.testBit i = true) : ∀ n, popN P n ≤ popN Q n ∧ ((∃ i, i < n ∧ Q.testBit i = true ∧ P.testBit i = false) → popN P n + 1 ≤ popN Q n) := by
  intro n
  induction n with
  | zero => exact ⟨Nat.le_refl _, fun ⟨i, hi, _⟩ => by omega⟩
  | succ n ih =>
    obtain ⟨h1, h2⟩ := ih
    have hn := h n
    unfold popN
    by_cases p : P.testBit n = true
    · rw [if_pos p, if_pos (hn p)]
      refine ⟨by omega, fun ⟨i, i1, i2, i3⟩ => ?_⟩
      have : i ≠ n := fun z => by rw [z, p] at i3; exact absurd i3 (by decide)
      have := h2 ⟨i, by omega, i2, i3⟩
      omega
    · rw [if_neg p]
      by_cases q : Q.testBit n = true
      · rw [if_pos q]
        exact ⟨by omega, fun _ => by omega⟩
      · rw [if_neg q]
        refine ⟨by omega, fun ⟨i, i1, i2, i3⟩ => ?_⟩
        have : i ≠ n := fun z => q (by rw [← z]; exact i2)
        have := h2 ⟨i, by omega, i2, i3⟩
        omega
theorem popN_bd {P N : Nat} (h : ∀ i, P.testBit i = true → i < N) : ∀ n, popN P n ≤ N := by
  have key : ∀ n, popN P n ≤ n ∧ popN P n ≤ N := by
    intro n
    induction n with
    | zero => exact ⟨Nat.le_refl _, Nat.zero_le _⟩
    | succ n ih =>
      unfold popN
      by_cases p : P.testBit n = true
      · rw [if_pos p]
        have := h n p
        omega
      · rw [if_neg p]
        omega
  exact fun n => (key n).2
theorem pop_lt {P Q : Nat} (hP : P < 256) (hQ : Q < 256) (h : ∀ i, P.testBit i = true → Q.testBit i = true) (hne : P ≠ Q) : pop P + 1 ≤ pop Q := by
  apply (popN_sub h 8).2
  apply Classical.byContradiction
  intro hn
  apply hne
  apply bit_ext
  intro i
  by_cases hi : 8 ≤ i
  · rw [bit_ge hP hi, bit_ge hQ hi]
  · cases h1 : P.testBit i
    · cases h2 : Q.testBit i
      · rfl
      · exact absurd ⟨i, by omega, h2, h1⟩ hn
    · rw [h i h1]
theorem rcI_bd {K : Lay} (hK : vK K) {s a : Nat} (ha : (a : Int) < K 0 0) : ∀ n i, (rcI K s (2 ^ a) n).testBit i = true → (i : Int) < K 0 0 := by
  obtain ⟨k0, k1, k2, k3, k4, kg, kd, kr⟩ := hK
  intro n
  induction n with
  | zero =>
    intro i h
    have h : (2 ^ a).testBit i = true := h
    rw [Nat.testBit_two_pow, decide_eq_true_eq] at h
    omega
  | succ n ih =>
    refine onw_in (C := fun i => (i : Int) < K 0 0) _ (fun g hg _ => ?_) ih
    have q1 := kg g (by omega) (by omega)
    constructor
    · intro _; omega
    · intro _; omega
theorem rcI_grow {K : Lay} (hK : vK K) {s a : Nat} (ha : (a : Int) < K 0 0) : ∀ n, rcI K s (2 ^ a) (n + 1) = rcI K s (2 ^ a) n ∨ n + 2 ≤ pop (rcI K s (2 ^ a) (n + 1)) := by
  have k0 := hK.1
  have hl : ∀ n, rcI K s (2 ^ a) n < 256 := rcI_lt hK (pow8 (by omega))
  have hs : ∀ n i, (rcI K s (2 ^ a) n).testBit i = true → (rcI K s (2 ^ a) (n + 1)).testBit i = true := fun n i h => onw_sub h _
  intro n
  induction n with
  | zero =>
    by_cases h : rcI K s (2 ^ a) (0 + 1) = rcI K s (2 ^ a) 0
    · exact Or.inl h
    · have h1 := pop_lt (hl 0) (hl 1) (hs 0) (fun z => h z.symm)
      have h2 : 1 ≤ pop (rcI K s (2 ^ a) 0) := popN_pos (i := a) (rcI_sub (Nat.testBit_two_pow_self ..) 0) 8 (by omega)
      exact Or.inr (by show 2 ≤ pop (rcI K s (2 ^ a) 1); omega)
  | succ n ih =>
    by_cases h : rcI K s (2 ^ a) (n + 1 + 1) = rcI K s (2 ^ a) (n + 1)
    · exact Or.inl h
    · rcases ih with e | e
      · refine absurd ?_ h
        show onw K s (rcI K s (2 ^ a) (n + 1)) _ = _
        rw [e]
        exact e
      · have h1 := pop_lt (hl (n + 1)) (hl (n + 2)) (hs (n + 1)) (fun z => h z.symm)
        exact Or.inr (by show n + 3 ≤ pop (rcI K s (2 ^ a) (n + 2)); omega)
theorem rcI_fix {K : Lay} (hK : vK K) {s a : Nat} (ha : (a : Int) < K 0 0) {n : Nat} (hn : K 0 0 ≤ (n : Int) + 1) : rcI K s (2 ^ a) (n + 1) = rcI K s (2 ^ a) n := by
  have k0 := hK.1
  rcases rcI_grow hK (s := s) ha n with h | h
  · exact h
  · have := popN_bd (N := (K 0 0).toNat) (fun i hi => by have := rcI_bd hK ha _ i hi; omega) (P := rcI K s (2 ^ a) (n + 1)) 8
    have h' : n + 2 ≤ popN (rcI K s (2 ^ a) (n + 1)) 8 := h
    omega
theorem mrg_eq {f : Int → Int} {A B x : Int} (hx : 0 ≤ x ∧ x < 8) : mrg f A B x = if f x = B then A else f x := by
  unfold mrg
  by_cases h : A = B
  · rw [if_pos h]
    split
    · rename_i q
      rw [q, h]
    · rfl
  · rw [if_neg h]
    by_cases q : f x = B
    · rw [if_pos ⟨hx.1, hx.2, q⟩, if_pos q]
    · rw [if_neg (fun z => q z.2.2), if_neg q]
theorem mrg_rel {f : Int → Int} {p q x y : Int} (hx : 0 ≤ x ∧ x < 8) (hy : 0 ≤ y ∧ y < 8) : (mrg f (f p) (f q) x = mrg f (f p) (f q) y) ↔ (f x = f y ∨ (f x = f p ∧ f y = f q) ∨ (f x = f q ∧ f y = f p)) := by
  rw [mrg_eq hx, mrg_eq hy]
  split <;> split <;> omega
theorem lab_closed {K : Lay} {s : Nat} {C : Int → Prop} : ∀ n : Nat, (∀ g : Nat, g < n → (0 ≤ K 1 (5 * (g : Int) + 1) ∧ K 1 (5 * (g : Int) + 1) < 8) ∧ (0 ≤ K 1 (5 * (g : Int) + 2) ∧ K 1 (5 * (g : Int) + 2) < 8)) → (∀ g : Nat, g < n → s.testBit g = true → (C (K 1 (5 * (g : Int) + 1)) ↔ C (K 1 (5 * (g : Int) + 2)))) → ∀ a b : Int, (0 ≤ a ∧ a < 8) → (0 ≤ b ∧ b < 8) → lab K s n a = lab K s n b → (C a ↔ C b) := by
  intro n
  induction n with
  | zero =>
    intro _ _ a b ha hb h
    have h : (if a < 8 then a else 0) = (if b < 8 then b else 0) := h
    rw [if_pos ha.2, if_pos hb.2] at h
    rw [h]
  | succ n ih =>
    intro hr hc a b ha hb h
    have ih' := ih (fun g hg => hr g (by omega)) (fun g hg => hc g (by omega))
    unfold lab at h
    by_cases q : s.testBit n = true
    · rw [if_pos q] at h
      obtain ⟨rA, rB⟩ := hr n (by omega)
      have hcn := hc n (by omega) q
      rcases (mrg_rel ha hb).mp h with e | e | e
      · exact ih' a b ha hb e
      · exact (ih' a _ ha rA e.1).trans (hcn.trans (ih' b _ hb rB e.2).symm)
      · exact (ih' a _ ha rB e.1).trans (hcn.symm.trans (ih' b _ hb rA e.2).symm)
    · rw [if_neg q] at h
      exact ih' a b ha hb h
theorem lab_mono {K : Lay} {s n : Nat} {a b : Int} (ha : 0 ≤ a ∧ a < 8) (hb : 0 ≤ b ∧ b < 8) (h : lab K s n a = lab K s n b) : lab K s (n + 1) a = lab K s (n + 1) b := by
  unfold lab
  split
  · exact (mrg_rel ha hb).mpr (Or.inl h)
  · exact h
theorem lab_edge {K : Lay} {s g : Nat} (hg : s.testBit g = true) (hA : 0 ≤ K 1 (5 * (g : Int) + 1) ∧ K 1 (5 * (g : Int) + 1) < 8) (hB : 0 ≤ K 1 (5 * (g : Int) + 2) ∧ K 1 (5 * (g : Int) + 2) < 8) : ∀ n : Nat, g < n → lab K s n (K 1 (5 * (g : Int) + 1)) = lab K s n (K 1 (5 * (g : Int) + 2)) := by
  intro n
  induction n with
  | zero => intro h; omega
  | succ n ih =>
    intro h
    by_cases z : g = n
    · subst z
      rw [lab, if_pos hg]
      exact (mrg_rel hA hB).mpr (Or.inr (Or.inl ⟨rfl, rfl⟩))
    · exact lab_mono hA hB (ih (by omega))
/-- reached means: one label -/
theorem rch_lab {K : Lay} (hK : vK K) {s a b : Nat} (ha : (a : Int) < K 0 0) (hb : (b : Int) < K 0 0) : (rch K s a).testBit b = true ↔ labK K s a = labK K s b := by
  obtain ⟨k0, k1, k2, k3, k4, kg, kd, kr⟩ := id hK
  have hgr : ∀ g : Nat, g < (K 0 1).toNat → (0 ≤ K 1 (5 * (g : Int) + 1) ∧ K 1 (5 * (g : Int) + 1) < 8) ∧ (0 ≤ K 1 (5 * (g : Int) + 2) ∧ K 1 (5 * (g : Int) + 2) < 8) := fun g hg => by
    obtain ⟨q0, q1, q2, -⟩ := kg g (by omega) (by omega)
    exact ⟨by omega, by omega⟩
  constructor
  · have key : ∀ n i, (rcI K s (2 ^ a) n).testBit i = true → labK K s a = labK K s i := by
      intro n
      induction n with
      | zero =>
        intro i h
        have h : (2 ^ a).testBit i = true := h
        rw [Nat.testBit_two_pow, decide_eq_true_eq] at h
        rw [h]
      | succ n ih =>
        refine onw_in (C := fun i => labK K s a = labK K s i) _ (fun g hg hs => ?_) ih
        obtain ⟨r1, r2⟩ := hgr g hg
        have e := lab_edge hs r1 r2 (K 0 1).toNat hg
        rw [show (((K 1 (5 * (g : Int) + 1)).toNat : Nat) : Int) = K 1 (5 * (g : Int) + 1) from by omega, show (((K 1 (5 * (g : Int) + 2)).toNat : Nat) : Int) = K 1 (5 * (g : Int) + 2) from by omega]
        have e : labK K s (K 1 (5 * (g : Int) + 1)) = labK K s (K 1 (5 * (g : Int) + 2)) := e
        rw [e]
    exact key _ b
  · intro h
    have hfix : onw K s (rch K s a) (K 0 1).toNat = rch K s a := rcI_fix hK (s := s) ha (n := (K 0 0).toNat) (by omega)
    have hc := lab_closed (K := K) (s := s) (C := fun i => (rch K s a).testBit i.toNat = true) (K 0 1).toNat hgr (fun g hg hs => by
      constructor
      · intro h1
        have := (onw_has (K := K) (s := s) (P := rch K s a) hs (Or.inl h1) (K 0 1).toNat hg).2
        rw [hfix] at this
        exact this
      · intro h1
        have := (onw_has (K := K) (s := s) (P := rch K s a) hs (Or.inr h1) (K 0 1).toNat hg).1
        rw [hfix] at this
        exact this) a b (by omega) (by omega) h
    have h1 : (rch K s a).testBit (a : Int).toNat = true := rch_self K s a
    have h2 := hc.mp h1
    exact h2
