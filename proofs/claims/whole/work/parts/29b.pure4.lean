/-! the best of all ways in which some are bound: by the least one first -/
/-- a set without one -/
def sm (S : Nat → Bool) (a : Nat) : Nat → Bool := fun i => S i && !decide (i = a)
def hmF (wt : Nat → Nat → Nat) (ok : Nat → Nat → Bool) (T : (Nat → Bool) → Nat) (S : Nat → Bool) (a acc b : Nat) : Nat := if S b = true ∧ ok a b = true then (if acc < T (sm S b) + wt a b then T (sm S b) + wt a b else acc) else acc
def hm (wt : Nat → Nat → Nat) (ok : Nat → Nat → Bool) (n : Nat) : Nat → (Nat → Bool) → Nat
  | 0, _ => 0
  | i + 1, S => if S (n - 1 - i) = true then fld n (n - 1 - i + 1) (hmF wt ok (hm wt ok n i) S (n - 1 - i)) (hm wt ok n i S) else hm wt ok n i S
theorem hm_congr {wt : Nat → Nat → Nat} {ok : Nat → Nat → Bool} {n : Nat} : ∀ {i : Nat} {S S' : Nat → Bool}, (∀ p, n - i ≤ p → p < n → S p = S' p) → i ≤ n → hm wt ok n i S = hm wt ok n i S'
  | 0, _, _, _, _ => rfl
  | i + 1, S, S', h, hi => by
    have ih : ∀ T T' : Nat → Bool, (∀ p, n - i ≤ p → p < n → T p = T' p) → hm wt ok n i T = hm wt ok n i T' := fun T T' q => hm_congr q (by omega)
    have e0 : hm wt ok n i S = hm wt ok n i S' := ih S S' (fun p h1 h2 => h p (by omega) h2)
    show (if S (n - 1 - i) = true then _ else _) = (if S' (n - 1 - i) = true then _ else _)
    rw [h (n - 1 - i) (by omega) (by omega), e0]
    split
    · refine fld_congr (fun j a h1 h2 => ?_)
      unfold hmF
      rw [h j (by omega) h2, ih (sm S j) (sm S' j) (fun p h3 h4 => by unfold sm; rw [h p (by omega) h4])]
    · rfl
theorem hm_skip {wt : Nat → Nat → Nat} {ok : Nat → Nat → Bool} {n : Nat} {S : Nat → Bool} : ∀ {k i : Nat}, k + i ≤ n → (∀ p, n - (k + i) ≤ p → p < n - i → S p = false) → hm wt ok n (k + i) S = hm wt ok n i S
  | 0, i, _, _ => by rw [Nat.zero_add]
  | k + 1, i, hk, h => by
    have ih := hm_skip (wt := wt) (ok := ok) (S := S) (k := k) (i := i) (by omega) (fun p h1 h2 => h p (by omega) h2)
    rw [show k + 1 + i = (k + i) + 1 by omega]
    show (if S (n - 1 - (k + i)) = true then _ else _) = _
    rw [h (n - 1 - (k + i)) (by omega) (by omega), if_neg (by decide), ih]
/-- of a set of n -/
def hT (wt : Nat → Nat → Nat) (ok : Nat → Nat → Bool) (n : Nat) (S : Nat → Bool) : Nat := hm wt ok n n S
theorem hT_congr {wt : Nat → Nat → Nat} {ok : Nat → Nat → Bool} {n : Nat} {S S' : Nat → Bool} (h : ∀ p, p < n → S p = S' p) : hT wt ok n S = hT wt ok n S' := hm_congr (fun p _ hp => h p hp) (Nat.le_refl _)
theorem hT_0 {wt : Nat → Nat → Nat} {ok : Nat → Nat → Bool} {n : Nat} {S : Nat → Bool} (h : ∀ p, p < n → S p = false) : hT wt ok n S = 0 := by
  have := hm_skip (wt := wt) (ok := ok) (n := n) (S := S) (k := n) (i := 0) (by omega) (fun p _ hp => h p (by omega))
  exact this
/-- by its least one -/
theorem hT_rec {wt : Nat → Nat → Nat} {ok : Nat → Nat → Bool} {n : Nat} {S : Nat → Bool} {a : Nat} (ha : a < n) (hS : S a = true) (hl : ∀ p, p < a → S p = false) : hT wt ok n S = fld n (a + 1) (hmF wt ok (hT wt ok n) (sm S a) a) (hT wt ok n (sm S a)) := by
  have e1 : hT wt ok n S = hm wt ok n (n - 1 - a + 1) S := by
    have := hm_skip (wt := wt) (ok := ok) (n := n) (S := S) (k := a) (i := n - 1 - a + 1) (by omega) (fun p _ hp => hl p (by omega))
    rw [show a + (n - 1 - a + 1) = n by omega] at this
    exact this
  have low : ∀ T : Nat → Bool, (∀ p, p < a + 1 → T p = false) → hT wt ok n T = hm wt ok n (n - 1 - a) T := by
    intro T h
    have := hm_skip (wt := wt) (ok := ok) (n := n) (S := T) (k := a + 1) (i := n - 1 - a) (by omega) (fun p _ hp => h p (by omega))
    rw [show a + 1 + (n - 1 - a) = n by omega] at this
    exact this
  have hsa : ∀ p, p < a + 1 → sm S a p = false := by
    intro p hp
    unfold sm
    by_cases e : p = a
    · simp [e]
    · rw [hl p (by omega)]
      rfl
  rw [e1]
  show (if S (n - 1 - (n - 1 - a)) = true then _ else _) = _
  rw [show n - 1 - (n - 1 - a) = a by omega, if_pos hS, low _ hsa, hm_congr (S := sm S a) (S' := S) (fun p h1 h2 => by unfold sm; simp [show ¬ p = a by omega]) (by omega)]
  refine fld_congr (fun j acc h1 h2 => ?_)
  unfold hmF
  rw [show sm S a j = S j by unfold sm; simp [show ¬ j = a by omega]]
  have e2 : hT wt ok n (sm (sm S a) j) = hm wt ok n (n - 1 - a) (sm S j) := by
    rw [low _ (fun p hp => by show (sm S a p && _) = false; rw [hsa p hp]; rfl)]
    exact hm_congr (fun p h3 h4 => by unfold sm; simp [show ¬ p = a by omega]) (by omega)
  rw [e2]
theorem fld_le {f : Nat → Nat → Nat} {n i acc M : Nat} (h0 : acc ≤ M) (hs : ∀ j a, i ≤ j → j < n → a ≤ M → f a j ≤ M) (hi : i ≤ n) : fld n i f acc ≤ M := fld_inv (p := fun _ a => a ≤ M) h0 hs hi
theorem hm_le {wt : Nat → Nat → Nat} {ok : Nat → Nat → Bool} {n M : Nat} (hw : ∀ a b, a < n → b < n → wt a b ≤ M) : ∀ (i : Nat) (S : Nat → Bool), i ≤ n → hm wt ok n i S ≤ i * M
  | 0, _, _ => Nat.zero_le _
  | i + 1, S, hi => by
    have ih := fun S => hm_le (ok := ok) hw i S (by omega)
    rw [Nat.succ_mul]
    show (if S (n - 1 - i) = true then _ else _) ≤ _
    split
    · refine fld_le (Nat.le_trans (ih S) (by omega)) (fun j a h1 h2 h3 => ?_) (by omega)
      unfold hmF
      split
      · have := ih (sm S j)
        have h4 := hw (n - 1 - i) j (by omega) h2
        split <;> omega
      · exact h3
    · exact Nat.le_trans (ih S) (by omega)
theorem mask_sm (S : Nat → Bool) {a n : Nat} (ha : a < n) : maskF S n ^^^ (maskF S n &&& 2 ^ a) = maskF (sm S a) n := mask_clb S ha
theorem mask_sm_lt {S : Nat → Bool} {a n : Nat} (ha : a < n) (hS : S a = true) : maskF (sm S a) n < maskF S n := by
  have h : maskF (sm S a) n ||| 2 ^ a = maskF S n := by
    rw [mask_orb _ ha]
    refine mask_congr (fun i _ => ?_)
    unfold sm
    by_cases e : i = a
    · simp [e, hS]
    · simp [e]
  have h2 : maskF (sm S a) n ≤ maskF S n := by
    rw [← h]
    exact Nat.left_le_or
  have h3 : maskF (sm S a) n ≠ maskF S n := fun e => by
    have h4 : (maskF (sm S a) n).testBit a = (maskF S n).testBit a := by rw [e]
    rw [tb_mask, tb_mask] at h4
    unfold sm at h4
    simp [ha, hS] at h4
  omega
/-- one who is in a set that isn't empty -/
theorem mask_pos {S : Nat → Bool} {n : Nat} (h : maskF S n ≠ 0) : ∃ a, a < n ∧ S a = true ∧ ∀ p, p < a → S p = false := by
  cases e : fnd n 0 S with
  | none =>
    exfalso
    apply h
    have := fnd_none.mp e
    rw [mask_none n]
    exact mask_congr (fun i hi => this i (by omega) hi)
  | some a =>
    obtain ⟨h1, h2, h3, h4⟩ := fnd_some e
    exact ⟨a, h2, h3, fun p hp => h4 p (by omega) hp⟩
theorem mask_test {s n : Nat} (h : s < 2 ^ n) : s = maskF (fun i => s.testBit i) n := Nat.eq_of_testBit_eq fun i => by
  rw [tb_mask]
  by_cases hi : i < n
  · simp [hi]
  · rw [Nat.testBit_lt_two_pow (Nat.lt_of_lt_of_le h (Nat.pow_le_pow_right (by decide) (by omega)))]
    simp [hi]
/-! as many couples as could be: the first row -/
def wm (ok : Nat → Nat → Bool) (n : Nat) (S : Nat → Bool) (a : Nat) : Option Nat := fnd n (a + 1) (fun b => S b && ok a b && decide (hT (fun _ _ => 1) ok n (sm (sm S a) b) + 1 = hT (fun _ _ => 1) ok n S))
def frF (ok : Nat → Nat → Bool) (n : Nat) (st : (Nat → Bool) × MM) (a : Nat) : (Nat → Bool) × MM := if st.1 a = true then (match wm ok n st.1 a with
    | none => (sm st.1 a, st.2)
    | some b => (sm (sm st.1 a) b, bnd st.2 a b)) else st
def fr1 (ok : Nat → Nat → Bool) (n : Nat) (S : Nat → Bool) : MM := (fld n 0 (frF ok n) (S, fun _ => none)).2
/-- who is no longer open stays with whom one is -/
theorem fr_stay {ok : Nat → Nat → Bool} {n : Nat} : ∀ {i : Nat} {st : (Nat → Bool) × MM} {p : Nat}, i ≤ n → st.1 p = false → (fld n i (frF ok n) st).2 p = st.2 p := by
  intro i st p hi hp
  refine (fld_inv (α := (Nat → Bool) × MM) (n := n) (f := frF ok n) (p := fun _ s => s.1 p = false ∧ s.2 p = st.2 p) (i := i) (acc := st) ⟨hp, rfl⟩ (fun j s h1 h2 hs => ?_) hi).2
  unfold frF
  split
  · rename_i hj
    have hpj : p ≠ j := fun e => by rw [e, hj] at hs; cases hs.1
    cases e : wm ok n s.1 j with
    | none => exact ⟨by show (s.1 p && _) = false; rw [hs.1]; rfl, hs.2⟩
    | some b =>
      have hb := fnd_some e
      have hpb : p ≠ b := fun e2 => by
        have := hb.2.2.1
        rw [← e2, hs.1] at this
        simp at this
      refine ⟨by show ((s.1 p && _) && _) = false; rw [hs.1]; rfl, ?_⟩
      show bnd s.2 j b p = _
      unfold bnd
      rw [if_neg hpb, if_neg hpj]
      exact hs.2
  · exact hs
