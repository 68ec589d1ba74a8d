/-! plain numbers: sums, masks, loops -/
theorem loop_up {n : Nat} {R : Nat → Prop} (last : R n) (step : ∀ i, i < n → R (i + 1) → R i) : ∀ i, i ≤ n → R i := by
  intro i hi
  obtain ⟨j, hj⟩ : ∃ j, i + j = n := ⟨n - i, by omega⟩
  clear hi
  induction j generalizing i with
  | zero =>
    obtain rfl : i = n := by omega
    exact last
  | succ j ih => exact step i (by omega) (ih (i + 1) (by omega))
def sumF (f : Nat → Int32) : Nat → Int32
  | 0 => 0
  | k + 1 => sumF f k + f k
def maskF (p : Nat → Bool) : Nat → Nat
  | 0 => 0
  | k + 1 => maskF p k + (if p k then 2 ^ k else 0)
theorem maskF_lt (p : Nat → Bool) : ∀ k, maskF p k < 2 ^ k
  | 0 => by simp [maskF]
  | k + 1 => by
    have h := maskF_lt p k
    have e : 2 ^ (k + 1) = 2 ^ k + 2 ^ k := by rw [Nat.pow_succ]; omega
    unfold maskF
    split <;> omega
theorem maskF_lt31 (p : Nat → Bool) {k : Nat} (h : k ≤ 30) : maskF p k < 2 ^ 30 := Nat.lt_of_lt_of_le (maskF_lt p k) (Nat.pow_le_pow_right (by omega) h)
/-- a bit more, above all others -/
theorem or_add {m k : Nat} (h : m < 2 ^ k) (hk : k < 31) : nI m ||| nI (2 ^ k) = nI (m + 2 ^ k) := by
  apply Int32.toBitVec_inj.mp
  apply BitVec.eq_of_toNat_eq
  have h1 : 2 ^ k < 2 ^ 32 := Nat.pow_lt_pow_right (by omega) (by omega)
  have h2 : 2 ^ k + 2 ^ k ≤ 2 ^ 32 := by
    have : 2 ^ (k + 1) ≤ 2 ^ 32 := Nat.pow_le_pow_right (by omega) (by omega)
    rw [Nat.pow_succ] at this
    omega
  rw [Int32.toBitVec_or, BitVec.toNat_or, pk_tn (by omega), pk_tn h1, pk_tn (by omega)]
  have h3 := Nat.two_pow_add_eq_or_of_lt h 1
  rw [Nat.mul_one] at h3
  rw [Nat.or_comm, ← h3, Nat.add_comm]
theorem maskF_or (p : Nat → Bool) {k : Nat} (hk : k < 31) (hp : p k = true) : nI (maskF p k) ||| nI (2 ^ k) = nI (maskF p (k + 1)) := by
  rw [or_add (maskF_lt p k) hk]
  show _ = nI (maskF p k + (if p k then 2 ^ k else 0))
  rw [if_pos hp]
theorem maskF_no (p : Nat → Bool) {k : Nat} (hp : p k = false) : maskF p (k + 1) = maskF p k := by
  rw [maskF, if_neg (by rw [hp]; decide)]
  omega
theorem or_0 (x : Int32) : x ||| nI 0 = x := by
  apply Int32.toBitVec_inj.mp
  simp [nI]
/-- for i from i up to n: what the loop makes of acc -/
def fld {α : Type} (n i : Nat) (f : α → Nat → α) (acc : α) : α := (List.range' i (n - i)).foldl f acc
theorem fld_end {α : Type} {n i : Nat} {f : α → Nat → α} {acc : α} (h : n ≤ i) : fld n i f acc = acc := by
  unfold fld
  rw [show n - i = 0 by omega]
  rfl
theorem fld_step {α : Type} {n i : Nat} {f : α → Nat → α} {acc : α} (h : i < n) : fld n i f acc = fld n (i + 1) f (f acc i) := by
  unfold fld
  rw [show n - i = (n - (i + 1)) + 1 by omega, List.range'_succ]
  rfl
theorem fld_congr {α : Type} {n : Nat} {f g : α → Nat → α} : ∀ {i : Nat} {acc : α}, (∀ j a, i ≤ j → j < n → f a j = g a j) → fld n i f acc = fld n i g acc := by
  intro i
  rcases Nat.lt_or_ge n i with h | h
  · intro acc _
    rw [fld_end (by omega), fld_end (by omega)]
  · refine loop_up (n := n) (R := fun i => ∀ {acc : α}, (∀ j a, i ≤ j → j < n → f a j = g a j) → fld n i f acc = fld n i g acc) ?_ ?_ i h
    · intro acc _
      rw [fld_end (Nat.le_refl _), fld_end (Nat.le_refl _)]
    · intro i hi ih acc h
      rw [fld_step hi, fld_step hi, h i acc (Nat.le_refl _) hi]
      exact ih (fun j a h1 h2 => h j a (by omega) h2)
theorem fld_succ {α : Type} {n i : Nat} {f : α → Nat → α} : ∀ {acc : α}, i ≤ n → fld (n + 1) i f acc = f (fld n i f acc) n := by
  intro acc h
  unfold fld
  rw [show n + 1 - i = (n - i) + 1 by omega, List.range'_concat, List.foldl_append]
  simp
  congr 1
  omega
/-- an invariant of a loop -/
theorem fld_inv {α : Type} {n : Nat} {f : α → Nat → α} {p : Nat → α → Prop} {i : Nat} {acc : α} (h0 : p i acc) (hs : ∀ j a, i ≤ j → j < n → p j a → p (j + 1) (f a j)) (h : i ≤ n) : p n (fld n i f acc) := by
  have h2 := loop_up (n := n) (R := fun k => i ≤ k → ∀ a, p k a → p n (fld n k f a)) (fun _ a ha => by rw [fld_end (Nat.le_refl _)]; exact ha) (fun k hk ih hik a ha => by
    rw [fld_step hk]
    exact ih (by omega) _ (hs k a hik hk ha)) i h
  exact h2 (Nat.le_refl _) acc h0
/-- the first of i up to n that p holds of -/
def fnd (n i : Nat) (p : Nat → Bool) : Option Nat := (List.range' i (n - i)).find? p
theorem fnd_end {n i : Nat} {p : Nat → Bool} (h : n ≤ i) : fnd n i p = none := by
  unfold fnd
  rw [show n - i = 0 by omega]
  rfl
theorem fnd_yes {n i : Nat} {p : Nat → Bool} (h : i < n) (hp : p i = true) : fnd n i p = some i := by
  unfold fnd
  rw [show n - i = (n - (i + 1)) + 1 by omega, List.range'_succ, List.find?_cons_of_pos hp]
theorem fnd_no {n i : Nat} {p : Nat → Bool} (h : i < n) (hp : p i = false) : fnd n i p = fnd n (i + 1) p := by
  unfold fnd
  rw [show n - i = (n - (i + 1)) + 1 by omega, List.range'_succ, List.find?_cons_of_neg (by rw [hp]; decide)]
