/-! the search of deals is a walk through the codes -/
def du (K : Lay) (cl : Nat) (L : Int → Nat) : Nat → Int → Int → (Int → Int) → (Int → Nat) → (Int × (Int → Int)) → (Int × (Int → Int))
  | 0, _, c, G, _, b => if c ≤ b.1 then b else (c, G)
  | k + 1, y, c, G, C, b => du K cl L k (y + 1) c (fset G y (-4)) C (rng (fun g b => if cl.testBit g = true then b else du K cl L k (y + 1) (c - bit (L g) (C g) + bit (L g) (C g ||| 2 ^ y.toNat)) (fset G y g) (nset C g (C g ||| 2 ^ y.toNat)) b) (K 0 1).toNat b)
theorem code_al (p B Q e j : Nat) : p * (Q * B) + (Q * e + j) = Q * (B * p + e) + j := by rw [Nat.mul_left_comm, Nat.mul_comm p B, Nat.mul_add Q, Nat.add_assoc]
theorem rng_fix {α : Type} {f : Nat → α → α} {b : α} : ∀ m : Nat, (∀ g, g < m → f g b = b) → rng f m b = b := by
  intro m
  induction m with
  | zero => intro _; rfl
  | succ m ih =>
    intro h
    rw [rng, ih (fun g hg => h g (by omega)), h m (by omega)]
theorem du_small {K : Lay} {cl : Nat} {L : Int → Nat} : ∀ (k : Nat) (y c : Int) (G : Int → Int) (C : Int → Nat) (b : Int × (Int → Int)), c + k ≤ b.1 → du K cl L k y c G C b = b := by
  intro k
  induction k with
  | zero =>
    intro y c G C b h
    rw [du, if_pos (by omega)]
  | succ k ih =>
    intro y c G C b h
    rw [du, rng_fix _ (fun g hg => by
      split
      · rfl
      · have h1 := bit_in (L g) (C g)
        have h2 := bit_in (L g) (C g ||| 2 ^ y.toNat)
        exact ih _ _ _ _ _ (by omega))]
    exact ih _ _ _ _ _ (by omega)
theorem dl_du {K : Lay} {cl : Nat} {L : Int → Nat} : ∀ (k : Nat) (y c : Int) (G : Int → Int) (C : Int → Nat) (b : Int × (Int → Int)), y + k = K 0 2 → dl K cl L k y c G C b = du K cl L k y c G C b := by
  intro k
  induction k with
  | zero =>
    intro y c G C b _
    rw [dl, du]
  | succ k ih =>
    intro y c G C b h
    rw [dl]
    by_cases q : c + K 0 2 - y ≤ b.1
    · rw [if_pos q, du_small (k + 1) y c G C b (by omega)]
    · rw [if_neg q, du, ih _ _ _ _ _ (by omega)]
      congr 1
      refine rng_congr _ _ (fun g a hg => ?_)
      split
      · rfl
      · exact ih _ _ _ _ _ (by omega)
/-- the digits of a deal's code -/
def dgl (K : Lay) (c x : Nat) : Nat := c / ((K 0 1).toNat + 1) ^ ((K 0 2).toNat - 1 - x) % ((K 0 1).toNat + 1)
def gl (K : Lay) (c : Nat) : Int → Int := fun x => if dgl K c x.toNat < (K 0 1).toNat then ((dgl K c x.toNat : Nat) : Int) else -4
def okB (K S : Lay) (c : Nat) : Nat → Bool
  | 0 => true
  | x + 1 => okB K S c x && decide (¬ (dgl K c x < (K 0 1).toNat ∧ cl K S (dgl K c x : Nat)))
def byC (K S : Lay) (n c : Nat) : Int := if okB K S c (K 0 2).toNat = true then ((pop (cb K (lives K (asg K S (gl K c)) n)) : Nat) : Int) else -1
def stl (K S : Lay) (n c : Nat) (b : Int × (Int → Int)) : Int × (Int → Int) := if b.1 < byC K S n c then (byC K S n c, gl K c) else b
def eqv (K : Lay) (b b' : Int × (Int → Int)) : Prop := b.1 = b'.1 ∧ ∀ y, 0 ≤ y → y < K 0 2 → b.2 y = b'.2 y
theorem okB_t {K S : Lay} {c : Nat} : ∀ x : Nat, okB K S c x = true ↔ ∀ i, i < x → ¬ (dgl K c i < (K 0 1).toNat ∧ cl K S (dgl K c i : Nat)) := by
  intro x
  induction x with
  | zero => exact ⟨fun _ i hi => by omega, fun _ => rfl⟩
  | succ x ih =>
    rw [okB, Bool.and_eq_true, ih, decide_eq_true_eq]
    constructor
    · rintro ⟨h1, h2⟩ i hi
      by_cases z : i = x
      · rw [z]; exact h2
      · exact h1 i (by omega)
    · intro h
      exact ⟨fun i hi => h i (by omega), h x (by omega)⟩
theorem stl_no {K S : Lay} {n c x : Nat} (hx : (x : Int) < K 0 2) (h : dgl K c x < (K 0 1).toNat ∧ cl K S (dgl K c x : Nat)) {b : Int × (Int → Int)} (hb : -1 ≤ b.1) : stl K S n c b = b := by
  unfold stl byC
  rw [if_neg (show ¬ okB K S c (K 0 2).toNat = true from fun z => (okB_t _).mp z x (by omega) h), if_neg (by omega)]
theorem rng_inv {α : Type} {P : α → Prop} {f : Nat → α → α} {b : α} (hb : P b) : ∀ m : Nat, (∀ g a, g < m → P a → f g a = a) → rng f m b = b := by
  intro m
  induction m with
  | zero => intro _; rfl
  | succ m ih =>
    intro h
    rw [rng, ih (fun g a hg => h g a (by omega)), h m b (by omega) hb]
theorem rng_rel {α β : Type} {R : α → β → Prop} {f : Nat → α → α} {f' : Nat → β → β} {a : α} {b : β} (h : R a b) : ∀ m : Nat, (∀ g x y, g < m → R x y → R (f g x) (f' g y)) → R (rng f m a) (rng f' m b) := by
  intro m
  induction m with
  | zero => intro _; exact h
  | succ m ih =>
    intro hs
    exact hs m _ _ (by omega) (ih (fun g x y hg => hs g x y (by omega)))
theorem deal_codes {K S : Lay} (hK : vK K) (hS : vS K S) {n : Nat} : ∀ (k y p : Nat) (G : Int → Int) (C : Int → Nat) (c : Int) (b b' : Int × (Int → Int)), ((y : Int) + k = K 0 2) →
    (∀ x : Int, 0 ≤ x → x < y → G x = -4 ∨ (0 ≤ G x ∧ G x < K 0 1 ∧ ¬ cl K S (G x))) →
    (∀ j x : Nat, j < ((K 0 1).toNat + 1) ^ k → x < y → gl K (p * ((K 0 1).toNat + 1) ^ k + j) x = G x) →
    (∀ g : Int, 0 ≤ g → g < K 0 1 → ∀ i : Nat, (C g).testBit i = true ↔ (i < y ∧ G i = g)) →
    c = cnt K S n C 8 → -1 ≤ b.1 → eqv K b b' →
    eqv K (du K (cb K S) (Lg K S n) k y c G C b) (rng (fun j => stl K S n (p * ((K 0 1).toNat + 1) ^ k + j)) (((K 0 1).toNat + 1) ^ k) b') ∧ -1 ≤ (du K (cb K S) (Lg K S n) k y c G C b).1 := by
  have k1 := hK.2.1
  have k2 := hK.2.2.1
  intro k
  induction k with
  | zero =>
    intro y p G C c b b' hy hG hp hC hc hb he
    have hy' : (K 0 2).toNat = y := by omega
    rw [du, Nat.pow_zero]
    show eqv K _ (stl K S n (p * 1 + 0) b') ∧ _
    rw [Nat.mul_one, Nat.add_zero]
    have hg : ∀ x : Nat, x < y → gl K p x = G x := fun x hx => by
      have := hp 0 x (by rw [Nat.pow_zero]; decide) hx
      rw [Nat.pow_zero, Nat.mul_one, Nat.add_zero] at this
      exact this
    have hA : okA K S (gl K p) := fun x x1 x2 => by
      have h1 := hg x.toNat (by omega)
      rw [show ((x.toNat : Nat) : Int) = x from by omega] at h1
      rw [h1]
      exact hG x x1 (by omega)
    have hok : okB K S p (K 0 2).toNat = true := (okB_t _).mpr (fun i hi z => by
      have h1 := hg i (by omega)
      have h2 : gl K p i = ((dgl K p i : Nat) : Int) := by
        show (if dgl K p (i : Int).toNat < _ then _ else _) = _
        rw [Int.toNat_natCast, if_pos z.1]
      have h3 := hG i (by omega) (by omega)
      rw [← h1, h2] at h3
      rcases h3 with h3 | h3
      · omega
      · exact h3.2.2 z.2)
    have hcr : ∀ g, 0 ≤ g → g < K 0 1 → crw K (gl K p) g (C g) := fun g g1 g2 i => by
      rw [hC g g1 g2 i]
      constructor
      · rintro ⟨z1, z2⟩
        exact ⟨by omega, by rw [hg i z1]; exact z2⟩
      · rintro ⟨z1, z2⟩
        exact ⟨by omega, by rw [← hg i (by omega)]; exact z2⟩
    have hby : byC K S n p = c := by
      unfold byC
      rw [if_pos hok, cnt_pop hK hS hA hcr, hc]
    unfold stl
    rw [hby, ← he.1]
    by_cases q : c ≤ b.1
    · rw [if_pos q, if_neg (by omega)]
      exact ⟨he, hb⟩
    · rw [if_neg q, if_pos (by omega)]
      refine ⟨⟨rfl, fun x x1 x2 => ?_⟩, by show -1 ≤ c; omega⟩
      have h1 := hg x.toNat (by omega)
      rw [show ((x.toNat : Nat) : Int) = x from by omega] at h1
      exact h1.symm
  | succ k ih =>
    intro y p G C c b b' hy hG hp hC hc hb he
    have hBp : 0 < ((K 0 1).toNat + 1) ^ k := Nat.pow_pos (by omega)
    have hyD : (K 0 2).toNat - 1 - y = k := by omega
    -- the digit at y of a code in a block
    have hdig : ∀ e j : Nat, e < ((K 0 1).toNat + 1) → j < ((K 0 1).toNat + 1) ^ k → dgl K (p * ((K 0 1).toNat + 1) ^ (k + 1) + (((K 0 1).toNat + 1) ^ k * e + j)) y = e := fun e j h1 h2 => by
      unfold dgl
      rw [hyD]
      have e1 : p * ((K 0 1).toNat + 1) ^ (k + 1) + (((K 0 1).toNat + 1) ^ k * e + j) = ((K 0 1).toNat + 1) ^ k * (((K 0 1).toNat + 1) * p + e) + j := by
        rw [Nat.pow_succ]
        exact code_al _ _ _ _ _
      rw [e1, Nat.mul_add_div hBp, Nat.div_eq_of_lt h2, Nat.add_zero, Nat.mul_add_mod, Nat.mod_eq_of_lt h1]
    have hlt : ∀ e j : Nat, e < ((K 0 1).toNat + 1) → j < ((K 0 1).toNat + 1) ^ k → ((K 0 1).toNat + 1) ^ k * e + j < ((K 0 1).toNat + 1) ^ (k + 1) := fun e j h1 h2 => by
      rw [Nat.pow_succ]
      have : ((K 0 1).toNat + 1) ^ k * e + ((K 0 1).toNat + 1) ^ k ≤ ((K 0 1).toNat + 1) ^ k * ((K 0 1).toNat + 1) := by
        rw [← Nat.mul_succ]
        exact Nat.mul_le_mul_left _ h1
      omega
    have hcode : ∀ e j : Nat, (p * ((K 0 1).toNat + 1) + e) * ((K 0 1).toNat + 1) ^ k + j = p * ((K 0 1).toNat + 1) ^ (k + 1) + (((K 0 1).toNat + 1) ^ k * e + j) := fun e j => by
      rw [Nat.add_mul, Nat.mul_assoc, Nat.pow_succ, Nat.mul_comm ((K 0 1).toNat + 1) (((K 0 1).toNat + 1) ^ k), Nat.mul_comm e, Nat.add_assoc]
    have blk : ∀ e : Nat, (fun j => stl K S n ((p * ((K 0 1).toNat + 1) + e) * ((K 0 1).toNat + 1) ^ k + j)) = (fun j => stl K S n (p * ((K 0 1).toNat + 1) ^ (k + 1) + (((K 0 1).toNat + 1) ^ k * e + j))) := fun e => by
      funext j
      rw [hcode]
    have hnxt : ∀ (e : Nat) (v : Int), e < ((K 0 1).toNat + 1) → (v = if e < (K 0 1).toNat then (e : Int) else -4) → ∀ j x : Nat, j < ((K 0 1).toNat + 1) ^ k → x < y + 1 → gl K ((p * ((K 0 1).toNat + 1) + e) * ((K 0 1).toNat + 1) ^ k + j) x = (fset G y v) x := fun e v h1 hv j x h2 h3 => by
      rw [hcode]
      by_cases z : x = y
      · rw [z, fset_at]
        show (if dgl K _ (y : Int).toNat < _ then _ else _) = _
        rw [Int.toNat_natCast, hdig e j h1 h2, hv]
      · rw [fset_ne (by omega)]
        exact hp _ x (hlt e j h1 h2) (by omega)
    have hpow : ((K 0 1).toNat + 1) ^ (k + 1) = ((K 0 1).toNat + 1) ^ k * ((K 0 1).toNat + 1) := Nat.pow_succ ((K 0 1).toNat + 1) k
    rw [du]
    have split1 : rng (fun j => stl K S n (p * ((K 0 1).toNat + 1) ^ (k + 1) + j)) (((K 0 1).toNat + 1) ^ (k + 1)) b' = rng (fun j => stl K S n ((p * ((K 0 1).toNat + 1) + (K 0 1).toNat) * ((K 0 1).toNat + 1) ^ k + j)) (((K 0 1).toNat + 1) ^ k) (rng (fun e b => rng (fun j => stl K S n ((p * ((K 0 1).toNat + 1) + e) * ((K 0 1).toNat + 1) ^ k + j)) (((K 0 1).toNat + 1) ^ k) b) (K 0 1).toNat b') := by
      have e1 : rng (fun j => stl K S n (p * ((K 0 1).toNat + 1) ^ (k + 1) + j)) (((K 0 1).toNat + 1) ^ (k + 1)) b' = rng (fun j => stl K S n (p * ((K 0 1).toNat + 1) ^ (k + 1) + j)) (((K 0 1).toNat + 1) ^ k * ((K 0 1).toNat + 1)) b' := by rw [hpow]
      rw [e1, rng_mul]
      have e2 : (fun i b => rng (fun j => stl K S n (p * ((K 0 1).toNat + 1) ^ (k + 1) + (((K 0 1).toNat + 1) ^ k * i + j))) (((K 0 1).toNat + 1) ^ k) b) = (fun e b => rng (fun j => stl K S n ((p * ((K 0 1).toNat + 1) + e) * ((K 0 1).toNat + 1) ^ k + j)) (((K 0 1).toNat + 1) ^ k) b) := by
        funext e b
        rw [blk e]
      rw [e2]
      rfl
    rw [split1]
    have mid : eqv K (rng (fun g b => if (cb K S).testBit g = true then b else du K (cb K S) (Lg K S n) k (y + 1) (c - bit (Lg K S n g) (C g) + bit (Lg K S n g) (C g ||| 2 ^ (y : Int).toNat)) (fset G y g) (nset C g (C g ||| 2 ^ (y : Int).toNat)) b) (K 0 1).toNat b) (rng (fun e b => rng (fun j => stl K S n ((p * ((K 0 1).toNat + 1) + e) * ((K 0 1).toNat + 1) ^ k + j)) (((K 0 1).toNat + 1) ^ k) b) (K 0 1).toNat b') ∧ -1 ≤ (rng (fun g b => if (cb K S).testBit g = true then b else du K (cb K S) (Lg K S n) k (y + 1) (c - bit (Lg K S n g) (C g) + bit (Lg K S n g) (C g ||| 2 ^ (y : Int).toNat)) (fset G y g) (nset C g (C g ||| 2 ^ (y : Int).toNat)) b) (K 0 1).toNat b).1 := by
      refine rng_rel (R := fun a a' => eqv K a a' ∧ -1 ≤ a.1) ⟨he, hb⟩ (K 0 1).toNat (fun g a a' hg hR => ?_)
      have hcb := cb_bit (K := K) (S := S) (g := g) (by omega)
      by_cases q : (cb K S).testBit g = true
      · rw [if_pos q]
        have e1 : rng (fun j => stl K S n ((p * ((K 0 1).toNat + 1) + g) * ((K 0 1).toNat + 1) ^ k + j)) (((K 0 1).toNat + 1) ^ k) a' = a' := by
          refine rng_inv (P := fun a : Int × (Int → Int) => -1 ≤ a.1) (by rw [← hR.1.1]; exact hR.2) _ (fun j v hj hv => ?_)
          rw [hcode]
          refine stl_no (x := y) (by omega) ?_ hv
          rw [hdig g j (by omega) hj]
          exact ⟨hg, hcb.mp q⟩
        rw [e1]
        exact hR
      · rw [if_neg q, Int.toNat_natCast]
        have hncl : ¬ cl K S g := fun z => q (hcb.mpr z)
        have := ih (y + 1) (p * ((K 0 1).toNat + 1) + g) (fset G y g) (nset C g (C g ||| 2 ^ y)) (c - bit (Lg K S n g) (C g) + bit (Lg K S n g) (C g ||| 2 ^ y)) a a' (by omega) (fun x x1 x2 => by
          by_cases z : x = y
          · rw [z, fset_at]
            exact Or.inr ⟨by omega, by omega, hncl⟩
          · rw [fset_ne z]
            exact hG x x1 (by omega)) (hnxt g g (by omega) (by rw [if_pos hg])) (fun g' g1 g2 i => by
          by_cases z : g' = g
          · rw [show nset C g (C g ||| 2 ^ y) g' = C g ||| 2 ^ y from by unfold nset; rw [if_pos z], or_bit, hC g (by omega) (by omega) i]
            constructor
            · rintro (⟨a1, a2⟩ | a1)
              · exact ⟨by omega, by rw [fset_ne (by omega)]; omega⟩
              · exact ⟨by omega, by rw [a1, fset_at]; omega⟩
            · rintro ⟨a1, a2⟩
              by_cases w : i = y
              · exact Or.inr w
              · rw [fset_ne (by omega)] at a2
                exact Or.inl ⟨by omega, by omega⟩
          · rw [show nset C g (C g ||| 2 ^ y) g' = C g' from by unfold nset; rw [if_neg z], hC g' g1 g2 i]
            constructor
            · rintro ⟨a1, a2⟩
              exact ⟨by omega, by rw [fset_ne (by omega)]; exact a2⟩
            · rintro ⟨a1, a2⟩
              by_cases w : i = y
              · rw [w, fset_at] at a2
                omega
              · rw [fset_ne (by omega)] at a2
                exact ⟨by omega, a2⟩) (by rw [cnt_nset (by omega) hncl 8, if_pos (by omega), hc]) hR.2 hR.1
        rw [show ((y + 1 : Nat) : Int) = (y : Int) + 1 from rfl] at this
        exact this
    have := ih (y + 1) (p * ((K 0 1).toNat + 1) + (K 0 1).toNat) (fset G y (-4)) C c _ _ (by omega) (fun x x1 x2 => by
      by_cases z : x = y
      · rw [z, fset_at]
        exact Or.inl rfl
      · rw [fset_ne z]
        exact hG x x1 (by omega)) (hnxt (K 0 1).toNat (-4) (by omega) (by rw [if_neg (by omega)])) (fun g' g1 g2 i => by
      rw [hC g' g1 g2 i]
      constructor
      · rintro ⟨a1, a2⟩
        exact ⟨by omega, by rw [fset_ne (by omega)]; exact a2⟩
      · rintro ⟨a1, a2⟩
        by_cases w : i = y
        · rw [w, fset_at] at a2
          omega
        · rw [fset_ne (by omega)] at a2
          exact ⟨by omega, a2⟩) hc mid.2 mid.1
    rw [show ((y + 1 : Nat) : Int) = (y : Int) + 1 from rfl] at this
    exact this
theorem cnt_0 {K S : Lay} (hK : vK K) (hS : vS K S) {n : Nat} : cnt K S n (fun _ => 0) 8 = ((pop (cb K S) : Nat) : Int) := by
  have key : ∀ m : Nat, cnt K S n (fun _ => 0) m = ((popN (cb K S) m : Nat) : Int) := by
    intro m
    induction m with
    | zero => rfl
    | succ m ih =>
      unfold popN cnt
      rw [ih]
      by_cases hm : (m : Int) < K 0 1
      · rw [if_pos hm]
        have hb := cb_bit (K := K) (S := S) (g := m) hm
        by_cases c0 : cl K S m
        · rw [if_pos c0, if_pos (hb.mpr c0)]
          omega
        · rw [if_neg c0, if_neg (fun z => c0 (hb.mp z))]
          have hpos : 0 < 2 ^ (K 0 2).toNat := Nat.pow_pos (by decide)
          have hv : vS K (crewS S 0 m) := vS_crew hK hS hpos ⟨by omega, hm⟩ (by unfold cl at c0; omega)
          have h2 := cfr_end hK ⟨by omega, hm⟩ hv (n := n)
          have h3 := clos_bit (K := K) (S := S) (n := n) (g := m) (2 ^ (K 0 2).toNat) 0
          have h4 : ¬ cl K (lives K (crewS S 0 m) n) m := by
            have k2 := hK.2.2.1
            have hall : ∀ i, 0 ≤ i → i < 4 → crewS S 0 m 2 i = -4 := fun i i1 i2 => by
              show (if _ then _ else _) = _
              rw [if_pos ⟨rfl, i1, i2⟩, Nat.zero_testBit, if_neg (by decide)]
            have h5 : (fun T : Lay => (∀ i, 0 ≤ i → i < 4 → T 2 i = -4) ∧ ¬ cl K T m) (lives K (crewS S 0 m) n) := by
              refine lives_ind (P := fun T : Lay => (∀ i, 0 ≤ i → i < 4 → T 2 i = -4) ∧ ¬ cl K T m) hK ?_ ?_ ?_ hv ⟨hall, ?_⟩ n
              · intro T x hx hT hP
                unfold fly
                rw [if_pos (hP.1 x hx.1 (by omega))]
                exact hP
              · intro T hT hP
                exact ⟨fun i i1 i2 => by rw [unp_2]; exact hP.1 i i1 i2, fun z => hP.2 ((unp_cl hK ⟨by omega, hm⟩).mp z)⟩
              · intro T v hP
                refine ⟨fun i i1 i2 => by rw [sset_row (by decide)]; exact hP.1 i i1 i2, ?_⟩
                unfold cl
                rw [sset_row (by decide)]
                exact hP.2
              · unfold cl at c0 ⊢
                have e1 : crewS S 0 m 1 m = S 1 m := if_neg (by omega)
                rw [e1]
                exact c0
            exact h5.2
          unfold bit
          rw [if_neg (fun z => (h3.mp z).2.elim c0 (fun y => h4 (h2.mp y)))]
          rfl
      · rw [if_neg hm, if_neg (fun z => by
          have := (cbs_bit _ _).mp z
          omega)]
        omega
  exact key 8
/-- the model's best deal -/
def dfo (K S : Lay) (n : Nat) : Nat → Nat × Int
  | 0 => (0, -1)
  | c + 1 => if (dfo K S n c).2 < byC K S n c then (c, byC K S n c) else dfo K S n c
theorem dfo_rel {K S : Lay} {n : Nat} {B0 : Int → Int} : ∀ c : Nat, (rng (stl K S n) c (-1, B0)).1 = (dfo K S n c).2 ∧ (0 ≤ (dfo K S n c).2 → (rng (stl K S n) c (-1, B0)).2 = gl K (dfo K S n c).1) ∧ -1 ≤ (dfo K S n c).2 := by
  intro c
  induction c with
  | zero =>
    refine ⟨rfl, fun h => ?_, Int.le_refl _⟩
    have h : (0 : Int) ≤ -1 := h
    omega
  | succ c ih =>
    obtain ⟨h1, h2, h3⟩ := ih
    show (stl K S n c (rng (stl K S n) c (-1, B0))).1 = _ ∧ (_ → (stl K S n c (rng (stl K S n) c (-1, B0))).2 = _) ∧ _
    generalize rng (stl K S n) c (-1, B0) = b at h1 h2 ⊢
    unfold stl dfo
    rw [h1]
    by_cases q : (dfo K S n c).2 < byC K S n c
    · rw [if_pos q, if_pos q]
      exact ⟨rfl, fun _ => rfl, by show -1 ≤ byC K S n c; omega⟩
    · rw [if_neg q, if_neg q]
      exact ⟨h1, h2, h3⟩
theorem deal_same {K S : Lay} (hK : vK K) (hS : vS K S) {n : Nat} {B0 : Int → Int} : eqv K (dl K (cb K S) (Lg K S n) (K 0 2).toNat 0 (pop (cb K S)) (fun _ => 0) (fun _ => 0) (-1, B0)) (rng (stl K S n) (((K 0 1).toNat + 1) ^ (K 0 2).toNat) (-1, B0)) := by
  have k2 := hK.2.2.1
  rw [dl_du _ _ _ _ _ _ (by omega)]
  have h := (deal_codes hK hS (n := n) (K 0 2).toNat 0 0 (fun _ => 0) (fun _ => 0) (pop (cb K S)) (-1, B0) (-1, B0) (by omega) (fun x x1 x2 => by omega) (fun j x _ hx => by omega) (fun g _ _ i => by
    rw [Nat.zero_testBit]
    exact ⟨fun z => absurd z (by decide), fun z => by omega⟩) (cnt_0 hK hS).symm (Int.le_refl _) ⟨rfl, fun _ _ _ => rfl⟩).1
  have e : (fun j => stl K S n (0 * ((K 0 1).toNat + 1) ^ (K 0 2).toNat + j)) = stl K S n := by
    funext j
    rw [Nat.zero_mul, Nat.zero_add]
  rw [e] at h
  exact h
