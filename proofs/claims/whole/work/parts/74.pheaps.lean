/-! heaps, pairs, between: both sides -/
theorem cbs_bit {K S : Lay} : ∀ (n g : Nat), (cbs K S n).testBit g = true ↔ g < n ∧ K 1 (5 * (g : Int) + 4) ≤ S 1 g := by
  intro n
  induction n with
  | zero =>
    intro g
    constructor
    · intro h
      have h : (0 : Nat).testBit g = true := h
      rw [Nat.zero_testBit] at h
      exact absurd h (by decide)
    · intro h; omega
  | succ n ih =>
    intro g
    unfold cbs
    by_cases c : K 1 (5 * (n : Int) + 4) ≤ S 1 n
    · rw [if_pos c, Nat.testBit_or, Bool.or_eq_true, ih, Nat.testBit_two_pow, decide_eq_true_eq]
      constructor
      · rintro (h | h)
        · exact ⟨by omega, h.2⟩
        · rw [← h]
          exact ⟨by omega, c⟩
      · rintro ⟨h1, h2⟩
        by_cases z : g = n
        · exact Or.inr z.symm
        · exact Or.inl ⟨by omega, h2⟩
    · rw [if_neg c, ih]
      constructor
      · rintro ⟨h1, h2⟩
        exact ⟨by omega, h2⟩
      · rintro ⟨h1, h2⟩
        refine ⟨?_, h2⟩
        by_cases z : g = n
        · rw [z] at h2
          exact absurd h2 c
        · omega
theorem cb_bit {K S : Lay} {g : Nat} (hg : (g : Int) < K 0 1) : (cb K S).testBit g = true ↔ K 1 (5 * (g : Int) + 4) ≤ S 1 g := by
  rw [cbs_bit]
  exact ⟨fun h => h.2, fun h => ⟨by omega, h⟩⟩
theorem hpI_bit {K : Lay} {s : Nat} : ∀ n i : Nat, (hpI K s n).2.testBit i = true ↔ ∃ j : Nat, j < n ∧ (rch K s j).testBit i = true := by
  intro n
  induction n with
  | zero =>
    intro i
    constructor
    · intro h
      have h : (0 : Nat).testBit i = true := h
      rw [Nat.zero_testBit] at h
      exact absurd h (by decide)
    · rintro ⟨j, h, -⟩; omega
  | succ n ih =>
    intro i
    have e : (hpI K s (n + 1)).2 = (hpI K s n).2 ||| rch K s n := rfl
    rw [e, Nat.testBit_or, Bool.or_eq_true, ih]
    constructor
    · rintro (⟨j, h1, h2⟩ | h)
      · exact ⟨j, by omega, h2⟩
      · exact ⟨n, by omega, h⟩
    · rintro ⟨j, h1, h2⟩
      by_cases z : j = n
      · rw [z] at h2
        exact Or.inr h2
      · exact Or.inl ⟨j, by omega, h2⟩
theorem hps_hpI {K : Lay} (hK : vK K) {s : Nat} : ∀ n : Nat, (n : Int) ≤ K 0 0 → (hpI K s n).1 = hps (labK K s) n := by
  intro n
  induction n with
  | zero => intro _; rfl
  | succ n ih =>
    intro hn
    have e : (hpI K s (n + 1)).1 = (hpI K s n).1 + (if (hpI K s n).2.testBit n = true then 0 else 1) := rfl
    rw [e, ih (by omega), hps]
    have hq : ((hpI K s n).2.testBit n = true) ↔ ∃ j : Nat, j < n ∧ labK K s j = labK K s n := by
      rw [hpI_bit]
      constructor
      · rintro ⟨j, h1, h2⟩
        exact ⟨j, h1, (rch_lab hK (by omega) (by omega)).mp h2⟩
      · rintro ⟨j, h1, h2⟩
        exact ⟨j, h1, (rch_lab hK (by omega) (by omega)).mpr h2⟩
    by_cases q : (hpI K s n).2.testBit n = true
    · rw [if_pos q, if_pos (hq.mp q), Int.add_zero]
    · rw [if_neg q, if_neg (fun z => q (hq.mpr z))]
theorem btw_fix {K : Lay} {s b P : Nat} (h : onw K s P (K 0 1).toNat = P) (hb : ¬ P.testBit b = true) : ∀ k l, btw K s b k l P = -4 := by
  intro k
  induction k with
  | zero => intro l; rfl
  | succ k ih =>
    intro l
    unfold btw
    rw [if_neg hb, h]
    exact ih (l + 1)
theorem btw_N {K : Lay} (hK : vK K) {s a b : Nat} (ha : (a : Int) < K 0 0) : ∀ (k n : Nat), n + k = (K 0 0).toNat → (n = 0 ∨ ¬ (rcI K s (2 ^ a) (n - 1)).testBit b = true) → btw K s b k n (rcI K s (2 ^ a) n) = btw K s b (8 - n) n (rcI K s (2 ^ a) n) := by
  have k0 := hK.1
  intro k
  induction k with
  | zero =>
    intro n hn h0
    have h1 : n ≠ 0 := by omega
    obtain ⟨m, rfl⟩ : ∃ m, n = m + 1 := ⟨n - 1, by omega⟩
    have hf := rcI_fix hK (s := s) ha (n := m) (by omega)
    have h2 : ¬ (rcI K s (2 ^ a) m).testBit b = true := h0.resolve_left h1
    rw [hf]
    exact (btw_fix (K := K) (s := s) (P := rcI K s (2 ^ a) m) hf h2 _ _).trans (btw_fix (K := K) (s := s) (P := rcI K s (2 ^ a) m) hf h2 _ _).symm
  | succ k ih =>
    intro n hn h0
    have e8 : 8 - n = (8 - (n + 1)) + 1 := by omega
    rw [e8, btw, btw]
    by_cases q : (rcI K s (2 ^ a) n).testBit b = true
    · rw [if_pos q, if_pos q]
    · rw [if_neg q, if_neg q]
      exact ih (n + 1) (by omega) (Or.inr q)
theorem btw_all {K : Lay} (hK : vK K) {s a b : Nat} (ha : (a : Int) < K 0 0) : btw K s b (K 0 0).toNat 0 (2 ^ a) = btw K s b 8 0 (2 ^ a) := btw_N hK (s := s) (b := b) ha (K 0 0).toNat 0 (by omega) (Or.inl rfl)
theorem lab_rng {K : Lay} (hK : vK K) {s : Nat} {i a : Int} (hi : 0 ≤ i ∧ i < 8) (ha : 0 ≤ a ∧ a < K 0 0) (h : labK K s i = labK K s a) : i < K 0 0 := by
  obtain ⟨k0, k1, k2, k3, k4, kg, kd, kr⟩ := id hK
  have hc := lab_closed (K := K) (s := s) (C := fun i => i < K 0 0) (K 0 1).toNat (fun g hg => by
    obtain ⟨q0, q1, q2, -⟩ := kg g (by omega) (by omega)
    exact ⟨by omega, by omega⟩) (fun g hg hs => by
    obtain ⟨q0, q1, q2, -⟩ := kg g (by omega) (by omega)
    constructor
    · intro _; omega
    · intro _; omega) i a hi (by omega) h
  exact hc.mpr ha.2
theorem pop_szw {K : Lay} (hK : vK K) {s a : Nat} (ha : (a : Int) < K 0 0) : ((pop (rch K s a) : Nat) : Int) = szw (labK K s) a 8 := by
  have key : ∀ n : Nat, n ≤ 8 → ((popN (rch K s a) n : Nat) : Int) = szw (labK K s) a n := by
    intro n
    induction n with
    | zero => intro _; rfl
    | succ n ih =>
      intro hn
      unfold popN szw
      have h := ih (by omega)
      have hq : (rch K s a).testBit n = true ↔ labK K s n = labK K s a := by
        constructor
        · intro h1
          have := rcI_bd hK ha _ n h1
          exact ((rch_lab hK ha this).mp h1).symm
        · intro h1
          have := lab_rng hK (s := s) (i := n) (a := a) (by omega) (by omega) h1
          exact (rch_lab hK ha this).mpr h1.symm
      by_cases q : (rch K s a).testBit n = true
      · rw [if_pos q, if_pos (hq.mp q)]
        omega
      · rw [if_neg q, if_neg (fun z => q (hq.mpr z))]
        omega
  exact key 8 (by omega)
/-- a seam more -/
theorem lab_add {K : Lay} (hK : vK K) {s g : Nat} (hg : (g : Int) < K 0 1) {a b : Int} (ha : 0 ≤ a ∧ a < 8) (hb : 0 ≤ b ∧ b < 8) : labK K (s ||| 2 ^ g) a = labK K (s ||| 2 ^ g) b ↔ (labK K s a = labK K s b ∨ (labK K s a = labK K s (K 1 (5 * (g : Int) + 1)) ∧ labK K s b = labK K s (K 1 (5 * (g : Int) + 2))) ∨ (labK K s a = labK K s (K 1 (5 * (g : Int) + 2)) ∧ labK K s b = labK K s (K 1 (5 * (g : Int) + 1)))) := by
  obtain ⟨k0, k1, k2, k3, k4, kg, kd, kr⟩ := id hK
  have hgr : ∀ g : Nat, g < (K 0 1).toNat → (0 ≤ K 1 (5 * (g : Int) + 1) ∧ K 1 (5 * (g : Int) + 1) < 8) ∧ (0 ≤ K 1 (5 * (g : Int) + 2) ∧ K 1 (5 * (g : Int) + 2) < 8) := fun g hg => by
    obtain ⟨q0, q1, q2, -⟩ := kg g (by omega) (by omega)
    exact ⟨by omega, by omega⟩
  obtain ⟨rA, rB⟩ := hgr g (by omega)
  have hbit : ∀ j, (s ||| 2 ^ g).testBit j = true ↔ s.testBit j = true ∨ j = g := by
    intro j
    rw [Nat.testBit_or, Bool.or_eq_true, Nat.testBit_two_pow, decide_eq_true_eq]
    constructor
    · rintro (h | h)
      · exact Or.inl h
      · exact Or.inr h.symm
    · rintro (h | h)
      · exact Or.inl h
      · exact Or.inr h.symm
  rw [← mrg_rel (f := labK K s) ha hb]
  constructor
  · intro h
    have hc := lab_closed (K := K) (s := s ||| 2 ^ g) (C := fun i => mrg (labK K s) (labK K s (K 1 (5 * (g : Int) + 1))) (labK K s (K 1 (5 * (g : Int) + 2))) a = mrg (labK K s) (labK K s (K 1 (5 * (g : Int) + 1))) (labK K s (K 1 (5 * (g : Int) + 2))) i) (K 0 1).toNat hgr (fun j hj hs => by
      obtain ⟨pA, pB⟩ := hgr j hj
      have e : mrg (labK K s) (labK K s (K 1 (5 * (g : Int) + 1))) (labK K s (K 1 (5 * (g : Int) + 2))) (K 1 (5 * (j : Int) + 1)) = mrg (labK K s) (labK K s (K 1 (5 * (g : Int) + 1))) (labK K s (K 1 (5 * (g : Int) + 2))) (K 1 (5 * (j : Int) + 2)) := by
        rcases (hbit j).mp hs with h1 | h1
        · exact (mrg_rel pA pB).mpr (Or.inl (lab_edge h1 pA pB (K 0 1).toNat hj))
        · rw [h1]
          exact (mrg_rel rA rB).mpr (Or.inr (Or.inl ⟨rfl, rfl⟩))
      rw [e]) a b ha hb h
    exact hc.mp rfl
  · intro h
    have eAB : labK K (s ||| 2 ^ g) (K 1 (5 * (g : Int) + 1)) = labK K (s ||| 2 ^ g) (K 1 (5 * (g : Int) + 2)) := lab_edge ((hbit g).mpr (Or.inr rfl)) rA rB (K 0 1).toNat (by omega)
    have hc : ∀ x y : Int, (0 ≤ x ∧ x < 8) → (0 ≤ y ∧ y < 8) → labK K s x = labK K s y → labK K (s ||| 2 ^ g) x = labK K (s ||| 2 ^ g) y := fun x y hx hy hxy => by
      have hc := lab_closed (K := K) (s := s) (C := fun i => labK K (s ||| 2 ^ g) x = labK K (s ||| 2 ^ g) i) (K 0 1).toNat hgr (fun j hj hs => by
        obtain ⟨pA, pB⟩ := hgr j hj
        have e : labK K (s ||| 2 ^ g) (K 1 (5 * (j : Int) + 1)) = labK K (s ||| 2 ^ g) (K 1 (5 * (j : Int) + 2)) := lab_edge ((hbit j).mpr (Or.inl hs)) pA pB (K 0 1).toNat hj
        rw [e]) x y hx hy hxy
      exact hc.mp rfl
    rcases (mrg_rel ha hb).mp h with h1 | h1 | h1
    · exact hc a b ha hb h1
    · rw [hc a _ ha rA h1.1, hc b _ hb rB h1.2, eAB]
    · rw [hc a _ ha rB h1.1, hc b _ hb rA h1.2, eAB]
theorem szw_succ {f : Int → Int} {c : Int} {n : Nat} : szw f c (n + 1) = if f n = f c then szw f c n + 1 else szw f c n := rfl
theorem szw_add {L L' : Int → Int} {A B : Int} (hne : ¬ L A = L B) {a : Int} : ∀ n : Nat, (∀ i : Nat, i < n → (L' i = L' a ↔ (L i = L a ∨ (L i = L A ∧ L a = L B) ∨ (L i = L B ∧ L a = L A)))) → szw L' a n = szw L a n + (if L a = L A then szw L B n else 0) + (if L a = L B then szw L A n else 0) := by
  intro n
  induction n with
  | zero => intro _; simp [szw]
  | succ n ih =>
    intro h
    have h1 := ih (fun i hi => h i (by omega))
    have h2 := h n (by omega)
    unfold szw
    rw [h1]
    by_cases p : L' n = L' a
    · rw [if_pos p]
      have h3 := h2.mp p
      (repeat' split) <;> omega
    · rw [if_neg p]
      have h3 : ¬ (L n = L a ∨ (L n = L A ∧ L a = L B) ∨ (L n = L B ∧ L a = L A)) := fun z => p (h2.mpr z)
      (repeat' split) <;> omega
theorem szw_same {L L' : Int → Int} {a : Int} : ∀ n : Nat, (∀ i : Nat, i < n → (L' i = L' a ↔ L i = L a)) → szw L' a n = szw L a n := by
  intro n
  induction n with
  | zero => intro _; rfl
  | succ n ih =>
    intro h
    have h1 := ih (fun i hi => h i (by omega))
    have h2 := h n (by omega)
    unfold szw
    by_cases p : L n = L a
    · rw [if_pos (h2.mpr p), if_pos p, h1]
    · rw [if_neg (fun z => p (h2.mp z)), if_neg p, h1]
/-- the pairs that a gap joins -/
theorem prI_add {K : Lay} (hK : vK K) {s g : Nat} (hg : (g : Int) < K 0 1) : prI K (s ||| 2 ^ g) (K 0 0).toNat / 2 - prI K s (K 0 0).toNat / 2 = prs K s g := by
  obtain ⟨k0, k1, k2, k3, k4, kg, kd, kr⟩ := id hK
  obtain ⟨q0, q1, q2, -⟩ := kg g (by omega) hg
  unfold prs
  by_cases hAB : labK K s (K 1 (5 * (g : Int) + 1)) = labK K s (K 1 (5 * (g : Int) + 2))
  · rw [if_pos hAB]
    have key : ∀ n : Nat, (n : Int) ≤ K 0 0 → prI K (s ||| 2 ^ g) n = prI K s n := by
      intro n
      induction n with
      | zero => intro _; rfl
      | succ n ih =>
        intro hn
        unfold prI
        have e := szw_same (L := labK K s) (L' := labK K (s ||| 2 ^ g)) (a := n) 8 (fun i hi => by
          rw [lab_add hK hg (by omega) (by omega)]
          constructor
          · rintro (h | h | h)
            · exact h
            · rw [h.1, h.2, hAB]
            · rw [h.1, h.2, hAB]
          · exact Or.inl)
        rw [ih (by omega), pop_szw hK (by omega), pop_szw hK (by omega), e]
    rw [key _ (by omega)]
    omega
  · rw [if_neg hAB]
    have key : ∀ n : Nat, (n : Int) ≤ K 0 0 → prI K (s ||| 2 ^ g) n = prI K s n + szw (labK K s) (K 1 (5 * (g : Int) + 1)) n * szw (labK K s) (K 1 (5 * (g : Int) + 2)) 8 + szw (labK K s) (K 1 (5 * (g : Int) + 2)) n * szw (labK K s) (K 1 (5 * (g : Int) + 1)) 8 := by
      intro n
      induction n with
      | zero => intro _; simp [prI, szw]
      | succ n ih =>
        intro hn
        unfold prI
        have e := szw_add (L := labK K s) (L' := labK K (s ||| 2 ^ g)) (A := K 1 (5 * (g : Int) + 1)) (B := K 1 (5 * (g : Int) + 2)) hAB (a := n) 8 (fun i hi => lab_add hK hg (by omega) (by omega))
        rw [ih (by omega), pop_szw hK (by omega), pop_szw hK (by omega), e, szw_succ (c := K 1 (5 * (g : Int) + 1)) (n := n), szw_succ (c := K 1 (5 * (g : Int) + 2)) (n := n)]
        by_cases c1 : labK K s n = labK K s (K 1 (5 * (g : Int) + 1))
        · rw [if_pos c1, if_pos c1, if_neg (fun z => hAB (c1.symm.trans z)), if_neg (fun z => hAB (c1.symm.trans z)), Int.add_mul, Int.one_mul]
          omega
        · rw [if_neg c1, if_neg c1]
          by_cases c2 : labK K s n = labK K s (K 1 (5 * (g : Int) + 2))
          · rw [if_pos c2, if_pos c2, Int.add_mul, Int.one_mul]
            omega
          · rw [if_neg c2, if_neg c2]
            omega
    have top : ∀ c : Int, (0 ≤ c ∧ c < K 0 0) → ∀ n : Nat, n ≤ 8 → K 0 0 ≤ (n : Int) → szw (labK K s) c n = szw (labK K s) c (K 0 0).toNat := by
      intro c hc n
      induction n with
      | zero => intro _ h; omega
      | succ n ih =>
        intro h8 h
        by_cases z : K 0 0 ≤ (n : Int)
        · rw [szw, if_neg (fun e => by have := lab_rng hK (s := s) (i := n) (a := c) (by omega) hc e; omega)]
          exact ih (by omega) z
        · rw [show (K 0 0).toNat = n + 1 from by omega]
    rw [key _ (by omega), ← top _ q1 8 (by omega) (by omega), ← top _ q2 8 (by omega) (by omega), Int.mul_comm (szw (labK K s) (K 1 (5 * (g : Int) + 2)) 8)]
    generalize szw (labK K s) (K 1 (5 * (g : Int) + 1)) 8 * szw (labK K s) (K 1 (5 * (g : Int) + 2)) 8 = m
    omega
def rjn (K : Lay) (s : Nat) : Nat → Int × Int
  | 0 => (-4, -1)
  | n + 1 => if (rjn K s n).2 < (if s.testBit n = true then -1 else prI K (s ||| 2 ^ n) (K 0 0).toNat / 2 - prI K s (K 0 0).toNat / 2) then ((n : Int), (if s.testBit n = true then -1 else prI K (s ||| 2 ^ n) (K 0 0).toNat / 2 - prI K s (K 0 0).toNat / 2)) else rjn K s n
theorem rjn_jn {K S : Lay} (hK : vK K) : ∀ n : Nat, (n : Int) ≤ K 0 1 → (jnS K S n = (-4, -4) ∧ rjn K (cb K S) n = (-4, -1)) ∨ (jnS K S n = rjn K (cb K S) n ∧ 0 ≤ (rjn K (cb K S) n).1 ∧ 0 ≤ (rjn K (cb K S) n).2) := by
  intro n
  induction n with
  | zero => intro _; exact Or.inl ⟨rfl, rfl⟩
  | succ n ih =>
    intro hn
    have h := ih (by omega)
    have e1 : jnS K S (n + 1) = (if K 1 (5 * (n : Int) + 4) ≤ S 1 n then jnS K S n else if (jnS K S n).2 < prs K (cb K S) n then ((n : Int), prs K (cb K S) n) else jnS K S n) := rfl
    have hb := cb_bit (K := K) (S := S) (g := n) (by omega)
    have hp := prs_in K (cb K S) n
    rw [e1, rjn]
    by_cases c : K 1 (5 * (n : Int) + 4) ≤ S 1 n
    · rw [if_pos c, if_pos (hb.mpr c)]
      rcases h with ⟨h1, h2⟩ | ⟨h1, h2, h3⟩
      · rw [h2, if_neg (by decide)]
        exact Or.inl ⟨h1, rfl⟩
      · rw [if_neg (by omega)]
        exact Or.inr ⟨h1, h2, h3⟩
    · rw [if_neg c, if_neg (fun z => c (hb.mp z)), prI_add hK (by omega)]
      rcases h with ⟨h1, h2⟩ | ⟨h1, h2, h3⟩
      · rw [h1, h2, if_pos (by show (-4 : Int) < _; omega), if_pos (by show (-1 : Int) < _; omega)]
        exact Or.inr ⟨rfl, by show (0 : Int) ≤ n; omega, hp.1⟩
      · rw [h1]
        by_cases q : (rjn K (cb K S) n).2 < prs K (cb K S) n
        · rw [if_pos q]
          exact Or.inr ⟨rfl, by show (0 : Int) ≤ n; omega, hp.1⟩
        · rw [if_neg q]
          exact Or.inr ⟨rfl, h2, h3⟩
