/-! plain numbers: sums, masks, loops -/
theorem loop_up {n : Nat} {R : Nat → Prop} (last : R n) (step : ∀ i, i < n → R (i + 1) → R i) : ∀ i, i ≤ n → R i := by
  intro i hi
  obtain ⟨j, hj⟩ : ∃ j, i + j = n := ⟨n - i, by omega⟩
  clear hi
  induction j generalizing i with
  | zero =>
    obtain rfl : i = n := by omega
    exact last
  | succ j ih => exact step i (by omega) (ih (i + 1) (by omega))
def sumF (f : Nat → Int32) : Nat → Int32
  | 0 => 0
  | k + 1 => sumF f k + f k
def maskF (p : Nat → Bool) : Nat → Nat
  | 0 => 0
  | k + 1 => maskF p k + (if p k then 2 ^ k else 0)
theorem maskF_lt (p : Nat → Bool) : ∀ k, maskF p k < 2 ^ k
  | 0 => by simp [maskF]
  | k + 1 => by
    have h := maskF_lt p k
    have e : 2 ^ (k + 1) = 2 ^ k + 2 ^ k := by rw [Nat.pow_succ]; omega
    unfold maskF
    split <;> omega
theorem maskF_lt31 (p : Nat → Bool) {k : Nat} (h : k ≤ 30) : maskF p k < 2 ^ 30 := Nat.lt_of_lt_of_le (maskF_lt p k) (Nat.pow_le_pow_right (by omega) h)
/-- a bit more, above all others -/
theorem or_add {m k : Nat} (h : m < 2 ^ k) (hk : k < 31) : nI m ||| nI (2 ^ k) = nI (m + 2 ^ k) := by
  apply Int32.toBitVec_inj.mp
  apply BitVec.eq_of_toNat_eq
  have h1 : 2 ^ k < 2 ^ 32 := Nat.pow_lt_pow_right (by omega) (by omega)
  have h2 : 2 ^ k + 2 ^ k ≤ 2 ^ 32 := by
    have : 2 ^ (k + 1) ≤ 2 ^ 32 := Nat.pow_le_pow_right (by omega) (by omega)
    rw [Nat.pow_succ] at this
    omega
  rw [Int32.toBitVec_or, BitVec.toNat_or, pk_tn (by omega), pk_tn h1, pk_tn (by omega)]
  have h3 := Nat.two_pow_add_eq_or_of_lt h 1
  rw [Nat.mul_one] at h3
  rw [Nat.or_comm, ← h3, Nat.add_comm]
theorem maskF_or (p : Nat → Bool) {k : Nat} (hk : k < 31) (hp : p k = true) : nI (maskF p k) ||| nI (2 ^ k) = nI (maskF p (k + 1)) := by
  rw [or_add (maskF_lt p k) hk]
  unfold maskF
  rw [if_pos hp]
theorem maskF_no (p : Nat → Bool) {k : Nat} (hp : p k = false) : maskF p (k + 1) = maskF p k := by
  rw [maskF, if_neg (by rw [hp]; decide)]
  omega
theorem or_0 (x : Int32) : x ||| nI 0 = x := by
  apply Int32.toBitVec_inj.mp
  simp [nI]
