/-! what a mere is, how it stands, what an hour does: numbers alone -/
theorem J_div {a b : Int} (ha : 0 ≤ a ∧ a < 2147483648) (hb : 0 < b ∧ b < 2147483648) : J a / J b = J (a / b) := by
  apply Int32.toInt_inj.mp
  rw [Int32.toInt_div_of_ne_left _ _ (fun e => by
    have h := congrArg Int32.toInt e
    rw [J_toInt (by omega), show (Int32.minValue).toInt = -2147483648 from by decide +kernel] at h
    omega), J_toInt (by omega), J_toInt (by omega), Int.tdiv_eq_ediv_of_nonneg ha.1, J_toInt]
  have h1 : 0 ≤ a / b := Int.ediv_nonneg ha.1 (by omega)
  have h2 : a / b ≤ a := Int.ediv_le_self b ha.1
  omega
theorem I_mod (a b : Int) : a - a / b * b = a % b := by
  rw [Int.emod_def, Int.mul_comm]
theorem J_ne0 {b : Int} (hb : 0 < b ∧ b < 2147483648) : (J b = J 0) = False := by
  rw [J_eq (by omega) (by omega)]
  exact eq_false (by omega)
/-- what is laid: K 0 numbers, K 1 gaps by five, K 2 stitchers by three, K 3 rains -/
abbrev Lay : Type := Int → Int → Int
def vK (K : Lay) : Prop := (1 ≤ K 0 0 ∧ K 0 0 ≤ 8) ∧ (0 ≤ K 0 1 ∧ K 0 1 ≤ 8) ∧ (0 ≤ K 0 2 ∧ K 0 2 ≤ 4) ∧ (1 ≤ K 0 3 ∧ K 0 3 ≤ 24) ∧ (0 ≤ K 0 4 ∧ K 0 4 ≤ 12) ∧
  (∀ g, 0 ≤ g → g < K 0 1 → (0 ≤ K 1 (5 * g) ∧ K 1 (5 * g) ≤ 3) ∧ (0 ≤ K 1 (5 * g + 1) ∧ K 1 (5 * g + 1) < K 0 0) ∧ (0 ≤ K 1 (5 * g + 2) ∧ K 1 (5 * g + 2) < K 0 0) ∧ K 1 (5 * g + 1) ≠ K 1 (5 * g + 2) ∧ (0 ≤ K 1 (5 * g + 3) ∧ K 1 (5 * g + 3) ≤ 40) ∧ (1 ≤ K 1 (5 * g + 4) ∧ K 1 (5 * g + 4) ≤ 20)) ∧
  (∀ d, 0 ≤ d → d < K 0 2 → (0 ≤ K 2 (3 * d) ∧ K 2 (3 * d) ≤ 3) ∧ (0 ≤ K 2 (3 * d + 1) ∧ K 2 (3 * d + 1) ≤ 40) ∧ (1 ≤ K 2 (3 * d + 2) ∧ K 2 (3 * d + 2) ≤ 9)) ∧
  (∀ r, 0 ≤ r → r < K 0 4 → 0 ≤ K 3 r ∧ K 3 r ≤ 1)
/-- how it stands: S 0 0 the hour, S 1 stitches, S 2 goals, S 3 places -/
def vS (K S : Lay) : Prop := 0 ≤ S 0 0 ∧ (∀ g, 0 ≤ g → g < K 0 1 → 0 ≤ S 1 g ∧ S 1 g ≤ K 1 (5 * g + 4)) ∧ (∀ d, 0 ≤ d → d < 4 → S 2 d = -4 ∨ (d < K 0 2 ∧ 0 ≤ S 2 d ∧ S 2 d < K 0 1 ∧ S 1 (S 2 d) < K 1 (5 * S 2 d + 4))) ∧ (∀ d, 0 ≤ d → d < K 0 2 → 0 ≤ S 3 d ∧ S 3 d ≤ 40)
def sset (S : Lay) (a i v : Int) : Lay := fun b k => if b = a ∧ k = i then v else S b k
theorem sset_at {S : Lay} {a i v : Int} : sset S a i v a i = v := by simp [sset]
theorem sset_row {S : Lay} {a i v b : Int} (h : b ≠ a) : sset S a i v b = S b := by
  funext k
  simp [sset, h]
theorem sset_fset {S : Lay} {a i v : Int} : sset S a i v a = fset (S a) i v := by
  funext k
  simp [sset, fset]
theorem fset_at {f : Int → Int} {i v : Int} : fset f i v i = v := by simp [fset]
theorem fset_ne {f : Int → Int} {i k v : Int} (h : k ≠ i) : fset f i v k = f k := by simp [fset, h]

def sew (K : Lay) (d g : Int) : Int := if K 1 (5 * g) = 1 then (if K 2 (3 * d) = 1 then 4 else 0) else if K 2 (3 * d) = 0 then 2 else if K 2 (3 * d) = 1 then 1 else if K 2 (3 * d) = 2 then (if K 1 (5 * g) = 3 then 0 else 4) else if 6 < K 1 (5 * g + 4) then 0 else 1
theorem sew_in (K : Lay) (d g : Int) : 0 ≤ sew K d g ∧ sew K d g ≤ 4 := by
  unfold sew
  repeat' split
  all_goals omega
def coff (S : Lay) (g : Int) : Lay := fun a i => if a = 2 ∧ 0 ≤ i ∧ i < 4 ∧ S 2 i = g then -4 else S a i
def step1 (p w : Int) : Int := if w < p then (if -p < w then w else -p) else p
def fly (K S : Lay) (d : Int) : Lay :=
  if S 2 d = -4 then S
  else if K 1 (5 * S 2 d + 3) - S 3 d ≠ 0 then sset S 3 d (S 3 d + step1 (K 2 (3 * d + 2)) (K 1 (5 * S 2 d + 3) - S 3 d))
  else if S 1 (S 2 d) + sew K d (S 2 d) < K 1 (5 * S 2 d + 4) then sset S 1 (S 2 d) (S 1 (S 2 d) + sew K d (S 2 d))
  else coff (sset S 1 (S 2 d) (K 1 (5 * S 2 d + 4))) (S 2 d)
def flies (K S : Lay) : Nat → Lay
  | 0 => S
  | n + 1 => fly K (flies K S n) n
def unp (K S : Lay) : Lay := fun a i => if a = 1 ∧ 0 ≤ i ∧ i < K 0 1 ∧ S 1 i < K 1 (5 * i + 4) then (if S 1 i - (if K 1 (5 * i) = 2 then 2 else 1) < 0 then 0 else S 1 i - (if K 1 (5 * i) = 2 then 2 else 1)) else S a i
def live (K S : Lay) (rain : Prop) [Decidable rain] : Lay :=
  let S1 := if S 0 0 % 24 < K 0 3 then flies K S (K 0 2).toNat else S
  let S2 := if rain then unp K S1 else S1
  sset S2 0 0 (S 0 0 + 1)

def lives (K S : Lay) : Nat → Lay
  | 0 => S
  | n + 1 => live K (lives K S n) (0 < K 0 4 ∧ K 3 ((lives K S n) 0 0 % K 0 4) = 1)
theorem fly_h (K S : Lay) (d : Int) : (fly K S d) 0 = S 0 := by
  unfold fly
  split
  · rfl
  split
  · exact sset_row (by decide)
  split
  · exact sset_row (by decide)
  · funext k
    simp [coff, sset]
theorem flies_h (K S : Lay) (n : Nat) : (flies K S n) 0 = S 0 := by
  induction n with
  | zero => rfl
  | succ n ih => rw [flies, fly_h, ih]
theorem unp_h (K S : Lay) : (unp K S) 0 = S 0 := by
  funext k
  simp [unp]
theorem live_h (K S : Lay) (rain : Prop) [Decidable rain] : (live K S rain) 0 0 = S 0 0 + 1 := by
  unfold live
  exact sset_at
theorem vS_fly {K S : Lay} (hK : vK K) (hS : vS K S) {d : Int} (hd : 0 ≤ d ∧ d < K 0 2) : vS K (fly K S d) := by
  obtain ⟨k0, k1, k2, k3, k4, kg, kd, kr⟩ := hK
  obtain ⟨s0, s1, s2, s3⟩ := hS
  have hsd := s2 d hd.1 (by omega)
  have hpd := s3 d hd.1 hd.2
  unfold fly
  split
  · exact ⟨s0, s1, s2, s3⟩
  rename_i hg
  rcases hsd with h | ⟨-, hg1, hg2, hg3⟩
  · exact absurd h hg
  obtain ⟨q0, q1, q2, q3, q4, q5⟩ := kg _ hg1 hg2
  obtain ⟨e0, e1, e2⟩ := kd d hd.1 hd.2
  have hsew := sew_in K d (S 2 d)
  have hst := s1 _ hg1 hg2
  split
  · refine ⟨by rw [sset_row (by decide)]; exact s0, by rw [sset_row (by decide)]; exact s1, by rw [sset_row (by decide), sset_row (by decide)]; exact s2, fun k h1 h2 => ?_⟩
    rw [sset_fset]
    by_cases hk : k = d
    · subst hk
      rw [fset_at]
      unfold step1
      repeat' split
      all_goals omega
    · rw [fset_ne hk]
      exact s3 k h1 h2
  split
  · rename_i hlt
    refine ⟨by rw [sset_row (by decide)]; exact s0, fun g h1 h2 => ?_, fun k h1 h2 => ?_, by rw [sset_row (by decide)]; exact s3⟩
    · rw [sset_fset]
      by_cases hk : g = S 2 d
      · subst hk
        rw [fset_at]
        omega
      · rw [fset_ne hk]
        exact s1 g h1 h2
    · rw [sset_row (b := 2) (by decide), sset_fset]
      rcases s2 k h1 h2 with h | ⟨h3, h4, h5, h6⟩
      · exact Or.inl h
      · refine Or.inr ⟨h3, h4, h5, ?_⟩
        by_cases hk : S 2 k = S 2 d
        · rw [hk, fset_at]
          exact hlt
        · rw [fset_ne hk]
          exact h6
  · have e2' : ∀ k, (coff (sset S 1 (S 2 d) (K 1 (5 * S 2 d + 4))) (S 2 d)) 2 k = if 0 ≤ k ∧ k < 4 ∧ S 2 k = S 2 d then -4 else S 2 k := by
      intro k
      simp [coff, sset]
    have e1' : (coff (sset S 1 (S 2 d) (K 1 (5 * S 2 d + 4))) (S 2 d)) 1 = fset (S 1) (S 2 d) (K 1 (5 * S 2 d + 4)) := by
      funext k
      simp [coff, sset, fset]
    have e3' : (coff (sset S 1 (S 2 d) (K 1 (5 * S 2 d + 4))) (S 2 d)) 3 = S 3 := by
      funext k
      simp [coff, sset]
    have e0' : (coff (sset S 1 (S 2 d) (K 1 (5 * S 2 d + 4))) (S 2 d)) 0 = S 0 := by
      funext k
      simp [coff, sset]
    refine ⟨by rw [e0']; exact s0, fun g h1 h2 => ?_, fun k h1 h2 => ?_, by rw [e3']; exact s3⟩
    · rw [e1']
      by_cases hk : g = S 2 d
      · subst hk
        rw [fset_at]
        omega
      · rw [fset_ne hk]
        exact s1 g h1 h2
    · rw [e2', e1']
      by_cases hc : 0 ≤ k ∧ k < 4 ∧ S 2 k = S 2 d
      · rw [if_pos hc]
        exact Or.inl rfl
      · rw [if_neg hc]
        rcases s2 k h1 h2 with h | ⟨h3, h4, h5, h6⟩
        · exact Or.inl h
        · refine Or.inr ⟨h3, h4, h5, ?_⟩
          rw [fset_ne (fun e => hc ⟨h1, h2, e⟩)]
          exact h6
theorem vS_flies {K S : Lay} (hK : vK K) (hS : vS K S) : ∀ n : Nat, (n : Int) ≤ K 0 2 → vS K (flies K S n) := by
  intro n
  induction n with
  | zero => intro _; exact hS
  | succ n ih =>
    intro h
    exact vS_fly hK (ih (by omega)) (by omega)
theorem vS_unp {K S : Lay} (hK : vK K) (hS : vS K S) : vS K (unp K S) := by
  obtain ⟨k0, k1, k2, k3, k4, kg, kd, kr⟩ := hK
  obtain ⟨s0, s1, s2, s3⟩ := hS
  have e2 : (unp K S) 2 = S 2 := by
    funext k
    simp [unp]
  have e3 : (unp K S) 3 = S 3 := by
    funext k
    simp [unp]
  have e1 : ∀ g, (unp K S) 1 g = if 0 ≤ g ∧ g < K 0 1 ∧ S 1 g < K 1 (5 * g + 4) then (if S 1 g - (if K 1 (5 * g) = 2 then 2 else 1) < 0 then 0 else S 1 g - (if K 1 (5 * g) = 2 then 2 else 1)) else S 1 g := by
    intro g
    simp [unp]
  refine ⟨by rw [unp_h]; exact s0, fun g h1 h2 => ?_, fun d h1 h2 => ?_, by rw [e3]; exact s3⟩
  · have := s1 g h1 h2
    rw [e1]
    repeat' split
    all_goals omega
  · rw [e2]
    rcases s2 d h1 h2 with h | ⟨h3, h4, h5, h6⟩
    · exact Or.inl h
    · refine Or.inr ⟨h3, h4, h5, ?_⟩
      have := s1 _ h4 h5
      have := (kg _ h4 h5).2.2.2.2.2
      rw [e1]
      repeat' split
      all_goals omega
theorem vS_hour {K S : Lay} (hS : vS K S) {v : Int} (hv : 0 ≤ v) : vS K (sset S 0 0 v) := by
  obtain ⟨s0, s1, s2, s3⟩ := hS
  refine ⟨by rw [sset_at]; exact hv, by rw [sset_row (by decide)]; exact s1, by rw [sset_row (by decide), sset_row (by decide)]; exact s2, by rw [sset_row (by decide)]; exact s3⟩
theorem vS_live {K S : Lay} (hK : vK K) (hS : vS K S) (rain : Prop) [Decidable rain] : vS K (live K S rain) := by
  have h0 := hS.1
  have h2 := hK.2.2.1
  unfold live
  refine vS_hour ?_ (by omega)
  have h1 : vS K (if S 0 0 % 24 < K 0 3 then flies K S (K 0 2).toNat else S) := by
    split
    · exact vS_flies hK hS _ (by omega)
    · exact hS
  split
  · exact vS_unp hK h1
  · exact h1
theorem vS_lives {K S : Lay} (hK : vK K) (hS : vS K S) : ∀ n, vS K (lives K S n) := by
  intro n
  induction n with
  | zero => exact hS
  | succ n ih => exact vS_live hK ih _
theorem lives_h (K S : Lay) : ∀ n : Nat, (lives K S n) 0 0 = S 0 0 + n := by
  intro n
  induction n with
  | zero => simp [lives]
  | succ n ih =>
    rw [lives, live_h, ih]
    omega
