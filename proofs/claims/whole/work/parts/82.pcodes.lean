/-! the search of rows is a walk through the codes -/
theorem rng_add {α : Type} {f : Nat → α → α} (a : Nat) : ∀ (m : Nat) (b : α), rng f (a + m) b = rng (fun i => f (a + i)) m (rng f a b) := by
  intro m
  induction m with
  | zero => intro b; rfl
  | succ m ih =>
    intro b
    rw [← Nat.add_assoc, rng, rng, ih]
theorem rng_mul {α : Type} {f : Nat → α → α} (B : Nat) : ∀ (m : Nat) (b : α), rng f (B * m) b = rng (fun i b => rng (fun j => f (B * i + j)) B b) m b := by
  intro m
  induction m with
  | zero => intro b; rfl
  | succ m ih =>
    intro b
    rw [Nat.mul_succ, rng_add, rng, ih]
theorem rng_id {α : Type} {f : Nat → α → α} : ∀ (m : Nat) (b : α), (∀ k a, k < m → f k a = a) → rng f m b = b := by
  intro m
  induction m with
  | zero => intro b _; rfl
  | succ m ih =>
    intro b h
    rw [rng, ih b (fun k a hk => h k a (by omega)), h m b (by omega)]
theorem rng_shift {α : Type} {f : Nat → α → α} (m : Nat) (b : α) : rng f (m + 1) b = rng (fun i => f (i + 1)) m (f 0 b) := by
  rw [Nat.add_comm, rng_add]
  have : (fun i => f (1 + i)) = (fun i => f (i + 1)) := by
    funext i
    rw [Nat.add_comm]
  rw [this]
  rfl
/-- the digits of a code -/
def dig (B c : Nat) : Nat → Int := fun k => (((if k = 0 then c / B / B else if k = 1 then c / B else c) % B : Nat) : Int) - 1
theorem dig_c {B c0 c1 c2 : Nat} (h0 : c0 < B) (h1 : c1 < B) (h2 : c2 < B) : dig B (B * (B * c0 + c1) + c2) 0 = (c0 : Int) - 1 ∧ dig B (B * (B * c0 + c1) + c2) 1 = (c1 : Int) - 1 ∧ dig B (B * (B * c0 + c1) + c2) 2 = (c2 : Int) - 1 := by
  have hB : 0 < B := by omega
  have e1 : (B * (B * c0 + c1) + c2) / B = B * c0 + c1 := by rw [Nat.mul_add_div hB, Nat.div_eq_of_lt h2, Nat.add_zero]
  have e2 : (B * c0 + c1) / B = c0 := by rw [Nat.mul_add_div hB, Nat.div_eq_of_lt h1, Nat.add_zero]
  refine ⟨?_, ?_, ?_⟩
  · show (((if (0 : Nat) = 0 then _ else _) % B : Nat) : Int) - 1 = _
    rw [if_pos rfl, e1, e2, Nat.mod_eq_of_lt h0]
  · show (((if (1 : Nat) = 0 then _ else if (1 : Nat) = 1 then _ else _) % B : Nat) : Int) - 1 = _
    rw [if_neg (by decide), if_pos rfl, e1, Nat.mul_add_mod, Nat.mod_eq_of_lt h1]
  · show (((if (2 : Nat) = 0 then _ else if (2 : Nat) = 1 then _ else _) % B : Nat) : Int) - 1 = _
    rw [if_neg (by decide), if_neg (by decide), Nat.mul_add_mod, Nat.mod_eq_of_lt h2]
theorem dig_in {B c k : Nat} (hB : 0 < B) : -1 ≤ dig B c k ∧ dig B c k < (B : Int) - 1 := by
  unfold dig
  have := Nat.mod_lt (if k = 0 then c / B / B else if k = 1 then c / B else c) hB
  omega
abbrev T3 : Type := Int × Int × (Int → Int)
/-- one code more -/
def stp (K S : Lay) (y n : Int) (B c : Nat) (b : T3) : T3 := match vhD K S y n (dig B c) with
  | none => b
  | some h => note b (mny (dig B c) 3) h (fun k => dig B c k.toNat)
theorem mny3 {D : Nat → Int} : mny D 3 = (if D 0 < 0 then 0 else 1) + (if D 1 < 0 then 0 else 1) + (if D 2 < 0 then 0 else 1) := by
  show 0 + (if D 0 < 0 then 0 else 1) + (if D 1 < 0 then 0 else 1) + (if D 2 < 0 then 0 else 1) = _
  rw [Int.zero_add]
theorem stp_0 {K S : Lay} {y n : Int} {B c : Nat} {b : T3} (h : dig B c 0 < 0 ∨ (dig B c 1 < 0 ∧ 0 ≤ dig B c 2)) : stp K S y n B c b = b := by
  unfold stp vhD
  rw [if_neg (by omega)]
theorem ext_note {K S : Lay} {y n : Int} {B c : Nat} {b : T3} {m : Nat} (hp : 0 ≤ dig B c 0 ∧ (0 ≤ dig B c 1 ∨ dig B c 2 < 0)) (hm : mny (dig B c) 3 = m) : stp K S y n B c b = (match rw2 K S y n (dig B c) m with
  | none => b
  | some p => note b m p.1 (fun k => dig B c k.toNat)) := by
  unfold stp vhD
  rw [if_pos hp, hm, Int.toNat_natCast]
  rcases rw2 K S y n (dig B c) m with _ | p <;> rfl
theorem dfs_ext {K : Lay} {y n : Int} {k : Nat} {len h : Int} {T : Lay} {R : Int → Int} {b : T3} : dfs K y n (k + 1) len h T R b = rng (fun g b => match ext K y n h T g with
  | none => b
  | some p => dfs K y n k (len + 1) p.1 p.2 (fset R len g) (note b (len + 1) p.1 (fset R len g))) (K 0 1).toNat b := by
  rw [dfs]
  refine rng_congr _ _ (fun g a hg => ?_)
  unfold ext cl
  by_cases c : K 1 (5 * (g : Int) + 4) ≤ T 1 g
  · rw [if_pos c, if_pos c]
  · rw [if_neg c, if_neg c]
    by_cases c2 : (cfr K (sset T 2 y g) g 0 (n - h).toNat).1 = -4
    · rw [if_pos c2, if_pos c2]
    · rw [if_neg c2, if_neg c2]
theorem codes_dfs {K S : Lay} {y n : Int} {G : Nat} (hG : (K 0 1).toNat = G) {R : Int → Int} {b : T3} : rng (stp K S y n (G + 1)) ((G + 1) * ((G + 1) * (G + 1))) b = dfs K y n 3 0 0 (aoff S) R b := by
  rw [rng_mul, rng_mul, rng_shift, rng_id (G + 1) b (fun c1 a h1 => rng_id (G + 1) a (fun c2 a h2 => stp_0 (Or.inl (by
    rw [(dig_c (B := G + 1) (c0 := 0) (by omega) h1 h2).1]
    decide)))), dfs_ext, hG]
  refine rng_congr _ _ (fun g0 b h0 => ?_)
  have D : ∀ c1 c2, c1 < G + 1 → c2 < G + 1 → dig (G + 1) ((G + 1) * ((G + 1) * (g0 + 1) + c1) + c2) 0 = g0 ∧ dig (G + 1) ((G + 1) * ((G + 1) * (g0 + 1) + c1) + c2) 1 = (c1 : Int) - 1 ∧ dig (G + 1) ((G + 1) * ((G + 1) * (g0 + 1) + c1) + c2) 2 = (c2 : Int) - 1 := fun c1 c2 h1 h2 => by
    obtain ⟨e0, e1, e2⟩ := dig_c (B := G + 1) (c0 := g0 + 1) (by omega) h1 h2
    exact ⟨by rw [e0]; omega, e1, e2⟩
  have w1 : ∀ c1 c2, c1 < G + 1 → c2 < G + 1 → rw2 K S y n (dig (G + 1) ((G + 1) * ((G + 1) * (g0 + 1) + c1) + c2)) 1 = ext K y n 0 (aoff S) g0 := fun c1 c2 h1 h2 => by
    show (rw2 K S y n (dig (G + 1) ((G + 1) * ((G + 1) * (g0 + 1) + c1) + c2)) 0).bind _ = _
    show ext K y n 0 (aoff S) _ = _
    rw [(D c1 c2 h1 h2).1]
  rw [rng_shift, rng_shift]
  rw [rng_id (f := fun i => stp K S y n (G + 1) ((G + 1) * ((G + 1) * (g0 + 1) + 0) + (i + 1))) G _ (fun c2 a h2 => stp_0 (Or.inr (by
    obtain ⟨e0, e1, e2⟩ := D 0 (c2 + 1) (by omega) (by omega)
    rw [e1, e2]
    omega)))]
  have s1 : stp K S y n (G + 1) ((G + 1) * ((G + 1) * (g0 + 1) + 0) + 0) b = (match ext K y n 0 (aoff S) g0 with
    | none => b
    | some p => note b 1 p.1 (fset R 0 g0)) := by
    obtain ⟨e0, e1, e2⟩ := D 0 0 (by omega) (by omega)
    rw [ext_note (m := 1) (by omega) (by rw [mny3]; rw [if_neg (by omega), if_pos (by omega), if_pos (by omega)]; rfl), w1 0 0 (by omega) (by omega)]
    rcases ext K y n 0 (aoff S) g0 with _ | p
    · rfl
    · refine note_congr (fun i i1 i2 => ?_)
      have : i = 0 := by have : i < 1 := i2; omega
      rw [this, fset_at]
      exact e0
  rw [s1]
  rcases hx : ext K y n 0 (aoff S) g0 with _ | p
  · dsimp only
    refine rng_id G b (fun c1 a h1 => rng_id (G + 1) a (fun c2 a h2 => ?_))
    obtain ⟨e0, e1, e2⟩ := D (c1 + 1) c2 (by omega) h2
    have hm : ∃ m : Nat, mny (dig (G + 1) ((G + 1) * ((G + 1) * (g0 + 1) + (c1 + 1)) + c2)) 3 = m ∧ 1 ≤ m := by
      rw [mny3, if_neg (by omega), if_neg (by omega)]
      split
      · exact ⟨2, rfl, by decide⟩
      · exact ⟨3, rfl, by decide⟩
    obtain ⟨m, hm1, hm2⟩ := hm
    rw [ext_note (by omega) hm1]
    have hn := rw2_none (K := K) (S := S) (y := y) (n := n) ((w1 (c1 + 1) c2 (by omega) h2).trans hx) (m - 1)
    rw [show 1 + (m - 1) = m from by omega] at hn
    rw [hn]
  · dsimp only
    rw [dfs_ext, hG]
    refine rng_congr _ _ (fun g1 b h1 => ?_)
    have w2 : ∀ c2, c2 < G + 1 → rw2 K S y n (dig (G + 1) ((G + 1) * ((G + 1) * (g0 + 1) + (g1 + 1)) + c2)) 2 = ext K y n p.1 p.2 g1 := fun c2 h2 => by
      show (rw2 K S y n (dig (G + 1) ((G + 1) * ((G + 1) * (g0 + 1) + (g1 + 1)) + c2)) 1).bind _ = _
      rw [w1 (g1 + 1) c2 (by omega) h2, hx]
      show ext K y n p.1 p.2 _ = _
      rw [(D (g1 + 1) c2 (by omega) h2).2.1, show ((g1 + 1 : Nat) : Int) - 1 = g1 from by omega]
    rw [rng_shift]
    have s2 : stp K S y n (G + 1) ((G + 1) * ((G + 1) * (g0 + 1) + (g1 + 1)) + 0) b = (match ext K y n p.1 p.2 g1 with
      | none => b
      | some r => note b 2 r.1 (fset (fset R 0 g0) 1 g1)) := by
      obtain ⟨e0, e1, e2⟩ := D (g1 + 1) 0 (by omega) (by omega)
      rw [ext_note (m := 2) (by omega) (by rw [mny3]; rw [if_neg (by omega), if_neg (by omega), if_pos (by omega)]; rfl), w2 0 (by omega)]
      rcases ext K y n p.1 p.2 g1 with _ | r
      · rfl
      · refine note_congr (fun i i1 i2 => ?_)
        have h : i = 0 ∨ i = 1 := by have : i < 2 := i2; omega
        rcases h with h | h
        · rw [h, fset_ne (by decide), fset_at]
          exact e0
        · rw [h, fset_at]
          refine e1.trans ?_
          omega
    rw [s2]
    rcases hx2 : ext K y n p.1 p.2 g1 with _ | r
    · dsimp only
      refine rng_id G b (fun c2 a h2 => ?_)
      obtain ⟨e0, e1, e2⟩ := D (g1 + 1) (c2 + 1) (by omega) (by omega)
      rw [ext_note (m := 3) (by omega) (by rw [mny3]; rw [if_neg (by omega), if_neg (by omega), if_neg (by omega)]; rfl)]
      have hn := rw2_none (K := K) (S := S) (y := y) (n := n) ((w2 (c2 + 1) (by omega)).trans hx2) 1
      rw [hn]
    · dsimp only
      rw [dfs_ext, hG]
      refine rng_congr _ _ (fun g2 b h2 => ?_)
      obtain ⟨e0, e1, e2⟩ := D (g1 + 1) (g2 + 1) (by omega) (by omega)
      have w3 : rw2 K S y n (dig (G + 1) ((G + 1) * ((G + 1) * (g0 + 1) + (g1 + 1)) + (g2 + 1))) 3 = ext K y n r.1 r.2 g2 := by
        show (rw2 K S y n (dig (G + 1) ((G + 1) * ((G + 1) * (g0 + 1) + (g1 + 1)) + (g2 + 1))) 2).bind _ = _
        rw [w2 (g2 + 1) (by omega), hx2]
        show ext K y n r.1 r.2 _ = _
        rw [e2, show ((g2 + 1 : Nat) : Int) - 1 = g2 from by omega]
      rw [ext_note (m := 3) (by omega) (by rw [mny3]; rw [if_neg (by omega), if_neg (by omega), if_neg (by omega)]; rfl), w3]
      rcases ext K y n r.1 r.2 g2 with _ | v
      · rfl
      · show note _ _ _ _ = dfs K y n 0 _ _ _ _ _
        rw [dfs]
        refine note_congr (fun i i1 i2 => ?_)
        have h : i = 0 ∨ i = 1 ∨ i = 2 := by have : i < 3 := i2; omega
        rcases h with h | h | h
        · rw [h, fset_ne (by decide), fset_ne (by decide), fset_at]
          exact e0
        · rw [h, fset_ne (by decide), show (0 : Int) + 1 = 1 from rfl, fset_at]
          refine e1.trans ?_
          omega
        · rw [h]
          refine e2.trans ?_
          show _ = fset _ 2 _ 2
          rw [fset_at]
          omega
/-- the model's best code and its hours -/
def rfo (K S : Lay) (y n : Int) (B : Nat) : Nat → Nat × Int
  | 0 => (0, 0)
  | c + 1 => match vhD K S y n (dig B c) with
    | none => rfo K S y n B c
    | some h => if mny (dig B (rfo K S y n B c).1) 3 < mny (dig B c) 3 ∨ (mny (dig B (rfo K S y n B c).1) 3 = mny (dig B c) 3 ∧ h < (rfo K S y n B c).2) then (c, h) else rfo K S y n B c
def orel (B : Nat) (b : T3) (r : Nat × Int) : Prop := b.1 = mny (dig B r.1) 3 ∧ b.2.1 = r.2 ∧ (∀ k : Nat, k < 3 → (k : Int) < b.1 → b.2.2 k = dig B r.1 k) ∧ (∀ k : Nat, k < 3 → (0 ≤ dig B r.1 k ↔ (k : Int) < b.1))
theorem rfo_rel {K S : Lay} {y n : Int} {B : Nat} (hB : 0 < B) {B0 : Int → Int} : ∀ c : Nat, orel B (rng (stp K S y n B) c (0, 0, B0)) (rfo K S y n B c) := by
  intro c
  induction c with
  | zero =>
    have h0 : ∀ k : Nat, dig B 0 k = -1 := fun k => by
      have e : (if k = 0 then 0 / B / B else if k = 1 then 0 / B else 0) % B = 0 := by
        rw [Nat.zero_div, Nat.zero_div]
        split <;> (try split) <;> exact Nat.zero_mod B
      show (((if k = 0 then 0 / B / B else if k = 1 then 0 / B else 0) % B : Nat) : Int) - 1 = -1
      rw [e]
      rfl
    refine ⟨?_, rfl, fun k hk h => ?_, fun k hk => ?_⟩
    · show (0 : Int) = mny (dig B 0) 3
      rw [mny3, h0, h0, h0]
      rfl
    · have h : (k : Int) < 0 := h
      omega
    · show 0 ≤ dig B 0 k ↔ (k : Int) < 0
      rw [h0]
      omega
  | succ c ih =>
    show orel B (stp K S y n B c (rng (stp K S y n B) c (0, 0, B0))) _
    generalize rng (stp K S y n B) c (0, 0, B0) = b at ih ⊢
    obtain ⟨h1, h2, h3, h4⟩ := ih
    unfold stp rfo
    rcases hv : vhD K S y n (dig B c) with _ | h
    · exact ⟨h1, h2, h3, h4⟩
    · dsimp only
      have hp : 0 ≤ dig B c 0 ∧ (0 ≤ dig B c 1 ∨ dig B c 2 < 0) := by
        unfold vhD at hv
        by_cases q : 0 ≤ dig B c 0 ∧ (0 ≤ dig B c 1 ∨ dig B c 2 < 0)
        · exact q
        · rw [if_neg q] at hv
          exact absurd hv (by simp)
      unfold note
      by_cases q : mny (dig B (rfo K S y n B c).1) 3 < mny (dig B c) 3 ∨ (mny (dig B (rfo K S y n B c).1) 3 = mny (dig B c) 3 ∧ h < (rfo K S y n B c).2)
      · rw [if_pos q, if_neg (by rw [h1, h2]; omega)]
        refine ⟨rfl, rfl, fun k hk hkm => ?_, fun k hk => ?_⟩
        · have hkm : (k : Int) < mny (dig B c) 3 := hkm
          show (if 0 ≤ (k : Int) ∧ (k : Int) < mny (dig B c) 3 then dig B c (k : Int).toNat else _) = _
          rw [if_pos ⟨by omega, hkm⟩, Int.toNat_natCast]
        · show 0 ≤ dig B c k ↔ (k : Int) < mny (dig B c) 3
          rw [mny3]
          have hk3 : k = 0 ∨ k = 1 ∨ k = 2 := by omega
          rcases hk3 with e | e | e
          · rw [e]; (repeat' split) <;> omega
          · rw [e]; (repeat' split) <;> omega
          · rw [e]; (repeat' split) <;> omega
      · rw [if_neg q, if_pos (by rw [h1, h2]; omega)]
        exact ⟨h1, h2, h3, h4⟩
