/-! sets of people as bits -/
theorem nI_or (a b : Nat) : nI a ||| nI b = nI (a ||| b) := by
  apply Int32.toBitVec_inj.mp
  show BitVec.ofNat 32 a ||| BitVec.ofNat 32 b = BitVec.ofNat 32 (a ||| b)
  exact (BitVec.ofNat_or ..).symm
theorem nI_and (a b : Nat) : nI a &&& nI b = nI (a &&& b) := by
  apply Int32.toBitVec_inj.mp
  show BitVec.ofNat 32 a &&& BitVec.ofNat 32 b = BitVec.ofNat 32 (a &&& b)
  exact (BitVec.ofNat_and ..).symm
theorem nI_xor (a b : Nat) : nI a ^^^ nI b = nI (a ^^^ b) := by
  apply Int32.toBitVec_inj.mp
  show BitVec.ofNat 32 a ^^^ BitVec.ofNat 32 b = BitVec.ofNat 32 (a ^^^ b)
  exact (BitVec.ofNat_xor ..).symm
/-- a without b -/
theorem nI_andnot (a b : Nat) : nI a &&& (nI b ^^^ -(nI 1)) = nI (a ^^^ (a &&& b)) := by
  rw [← nI_xor, ← nI_and]
  apply Int32.toBitVec_inj.mp
  apply BitVec.eq_of_getLsbD_eq
  intro i hi
  have e : (-(nI 1)).toBitVec = BitVec.allOnes 32 := by decide +kernel
  rw [Int32.toBitVec_and, Int32.toBitVec_xor, Int32.toBitVec_xor, Int32.toBitVec_and, e, BitVec.getLsbD_and, BitVec.getLsbD_xor, BitVec.getLsbD_xor, BitVec.getLsbD_and, BitVec.getLsbD_allOnes]
  simp only [hi, decide_true]
  cases (nI a).toBitVec.getLsbD i <;> cases (nI b).toBitVec.getLsbD i <;> rfl
theorem tb_mask (p : Nat → Bool) : ∀ (n i : Nat), (maskF p n).testBit i = (decide (i < n) && p i)
  | 0, i => by
    show (0 : Nat).testBit i = _
    rw [Nat.zero_testBit]
    simp
  | n + 1, i => by
    have ih := tb_mask p n i
    have hl := maskF_lt p n
    show (maskF p n + (if p n then 2 ^ n else 0)).testBit i = _
    by_cases hp : p n = true
    · rw [if_pos hp, Nat.add_comm]
      by_cases hi : i = n
      · subst hi
        rw [Nat.testBit_two_pow_add_eq, ih]
        simp [hp]
      · rcases Nat.lt_or_gt_of_ne hi with h | h
        · rw [Nat.testBit_two_pow_add_gt h, ih]
          simp [h, Nat.lt_succ_of_lt h]
        · rw [Nat.testBit_lt_two_pow (by
            have : 2 ^ n + maskF p n < 2 ^ (n + 1) := by rw [Nat.pow_succ]; omega
            exact Nat.lt_of_lt_of_le this (Nat.pow_le_pow_right (by omega) h))]
          have : ¬ i < n + 1 := by omega
          simp [this]
    · rw [if_neg hp, Nat.add_zero, ih]
      by_cases hi : i = n
      · subst hi
        simp [hp]
      · have : (i < n + 1) = (i < n) := by
          apply propext
          omega
        simp [this]
theorem mask_eq {p p' : Nat → Bool} {n n' : Nat} (h : ∀ i, (decide (i < n) && p i) = (decide (i < n') && p' i)) : maskF p n = maskF p' n' := Nat.eq_of_testBit_eq fun i => by rw [tb_mask, tb_mask, h i]
theorem mask_congr {p p' : Nat → Bool} {n : Nat} (h : ∀ i, i < n → p i = p' i) : maskF p n = maskF p' n := mask_eq fun i => by
  by_cases hi : i < n
  · rw [h i hi]
  · simp [hi]
theorem mask_or (p p' : Nat → Bool) (n : Nat) : maskF p n ||| maskF p' n = maskF (fun i => p i || p' i) n := Nat.eq_of_testBit_eq fun i => by
  rw [Nat.testBit_or, tb_mask, tb_mask, tb_mask]
  cases decide (i < n) <;> rfl
theorem mask_and (p p' : Nat → Bool) (n : Nat) : maskF p n &&& maskF p' n = maskF (fun i => p i && p' i) n := Nat.eq_of_testBit_eq fun i => by
  rw [Nat.testBit_and, tb_mask, tb_mask, tb_mask]
  cases decide (i < n) <;> simp
theorem mask_diff (p p' : Nat → Bool) (n : Nat) : maskF p n ^^^ (maskF p n &&& maskF p' n) = maskF (fun i => p i && !p' i) n := Nat.eq_of_testBit_eq fun i => by
  rw [Nat.testBit_xor, Nat.testBit_and, tb_mask, tb_mask, tb_mask]
  cases decide (i < n) <;> cases p i <;> cases p' i <;> rfl
theorem mask_one {k n : Nat} (h : k < n) : 2 ^ k = maskF (fun i => decide (i = k)) n := Nat.eq_of_testBit_eq fun i => by
  rw [Nat.testBit_two_pow, tb_mask]
  by_cases e : k = i
  · subst e
    simp [h]
  · have : ¬ i = k := fun q => e q.symm
    simp [e, this]
theorem mask_orb (p : Nat → Bool) {k n : Nat} (h : k < n) : maskF p n ||| 2 ^ k = maskF (fun i => p i || decide (i = k)) n := by
  rw [mask_one h, mask_or]
theorem mask_clb (p : Nat → Bool) {k n : Nat} (h : k < n) : maskF p n ^^^ (maskF p n &&& 2 ^ k) = maskF (fun i => p i && !decide (i = k)) n := by
  rw [mask_one h, mask_diff]
theorem mask_none (n : Nat) : (0 : Nat) = maskF (fun _ => false) n := Nat.eq_of_testBit_eq fun i => by
  rw [Nat.zero_testBit, tb_mask]
  simp
theorem mask_all : ∀ n, 2 ^ n - 1 = maskF (fun _ => true) n
  | 0 => rfl
  | n + 1 => by
    have ih := mask_all n
    have h := Nat.two_pow_pos n
    show 2 ^ (n + 1) - 1 = maskF (fun _ => true) n + (if true then 2 ^ n else 0)
    rw [← ih, if_pos rfl, Nat.pow_succ]
    omega
theorem mask_lt31 (p : Nat → Bool) {n : Nat} (h : n ≤ 10) : maskF p n < 2 ^ 31 := Nat.lt_trans (maskF_lt31 p (by omega)) (by decide)
theorem mask_lt10 (p : Nat → Bool) {n : Nat} (h : n ≤ 10) : maskF p n < 1024 := Nat.lt_of_lt_of_le (maskF_lt p n) (Nat.pow_le_pow_right (n := 2) (by omega) h)
theorem tb_dm (m k : Nat) : m / 2 ^ k % 2 = (if m.testBit k then 1 else 0) := by
  rw [Nat.testBit_eq_decide_div_mod_eq]
  by_cases h : m / 2 ^ k % 2 = 1
  · rw [h]
    rfl
  · simp [h]
    omega
/-- the bit of k, as the code looks at it -/
theorem mask_bit (p : Nat → Bool) {k n : Nat} (hn : n ≤ 10) (h : k < n) : (nI (maskF p n) >>> (nI k &&& 31)) &&& nI 1 = nI (if p k then 1 else 0) := by
  rw [sh_b (mask_lt31 p hn) (by omega), tb_dm, tb_mask]
  simp [h]
/-- how many -/
def cntF (p : Nat → Bool) : Nat → Nat
  | 0 => 0
  | k + 1 => cntF p k + (if p k then 1 else 0)
theorem cntF_le (p : Nat → Bool) : ∀ n, cntF p n ≤ n
  | 0 => Nat.le_refl _
  | n + 1 => by
    have h := cntF_le p n
    show cntF p n + _ ≤ _
    split <;> omega
theorem cntF_congr {p p' : Nat → Bool} : ∀ {n : Nat}, (∀ i, i < n → p i = p' i) → cntF p n = cntF p' n
  | 0, _ => rfl
  | n + 1, h => by
    show cntF p n + _ = cntF p' n + _
    rw [cntF_congr (fun i hi => h i (by omega)), h n (by omega)]
theorem cntF_set (p : Nat → Bool) (a : Nat) (hp : p a = true) : ∀ {n : Nat}, a < n → cntF (fun i => p i && !decide (i = a)) n + 1 = cntF p n
  | 0, h => absurd h (by omega)
  | n + 1, h => by
    show cntF _ n + _ + 1 = cntF p n + _
    by_cases e : n = a
    · subst e
      rw [cntF_congr (p' := p) (fun i hi => by simp [show ¬ i = n by omega])]
      simp [hp]
    · have ih := cntF_set p a hp (n := n) (by omega)
      simp only [e, decide_false, Bool.not_false, Bool.and_true]
      omega
theorem cntF_not (p : Nat → Bool) : ∀ n, cntF p n + cntF (fun i => !p i) n = n
  | 0 => rfl
  | n + 1 => by
    have ih := cntF_not p n
    show cntF p n + (if p n = true then 1 else 0) + (cntF (fun i => !p i) n + (if (!p n) = true then 1 else 0)) = n + 1
    cases hpn : p n
    · simp
      omega
    · simp
      omega
theorem cntF_0 {p : Nat → Bool} : ∀ {n : Nat}, (∀ i, i < n → p i = false) → cntF p n = 0
  | 0, _ => rfl
  | n + 1, h => by
    show cntF p n + _ = 0
    rw [cntF_0 (fun i hi => h i (by omega)), h n (by omega)]
    rfl
theorem cntF_pos {p : Nat → Bool} : ∀ {n a : Nat}, a < n → p a = true → 0 < cntF p n
  | 0, _, h, _ => absurd h (by omega)
  | n + 1, a, h, hp => by
    show 0 < cntF p n + _
    by_cases e : a = n
    · subst e
      simp [hp]
    · have := cntF_pos (n := n) (a := a) (by omega) hp
      omega
theorem cntF_more (p : Nat → Bool) : ∀ {n k : Nat}, n ≤ k → (∀ i, n ≤ i → i < k → p i = false) → cntF p k = cntF p n := by
  intro n k h h2
  induction k with
  | zero => rw [Nat.le_zero.mp h]
  | succ k ih =>
    by_cases e : n = k + 1
    · rw [e]
    · show cntF p k + _ = _
      rw [ih (by omega) (fun i h3 h4 => h2 i h3 (by omega)), h2 k (by omega) (by omega)]
      rfl
theorem mask_acc1 {p : Nat → Bool} {i : Nat} {c : Prop} [Decidable c] (h : c ↔ p i = true) : (maskF p i ||| if c then 2 ^ i else 0) = maskF p (i + 1) := by
  have e : maskF p (i + 1) = maskF p i + (if p i then 2 ^ i else 0) := rfl
  by_cases hc : c
  · rw [if_pos hc, e, if_pos (h.mp hc), Nat.or_comm, Nat.add_comm]
    have := Nat.two_pow_add_eq_or_of_lt (maskF_lt p i) 1
    rw [Nat.mul_one] at this
    exact this.symm
  · rw [if_neg hc, e, if_neg (fun q => hc (h.mpr q)), Nat.or_zero, Nat.add_zero]
theorem mask_acc0 {p : Nat → Bool} {i : Nat} {c : Prop} [Decidable c] (h : c ↔ p i = false) : (maskF p i ||| if c then 0 else 2 ^ i) = maskF p (i + 1) := by
  have := mask_acc1 (p := p) (i := i) (c := ¬ c) (by rw [h]; cases p i <;> simp)
  rw [← this]
  by_cases hc : c <;> simp [hc]
def sumN (f : Nat → Nat) : Nat → Nat
  | 0 => 0
  | k + 1 => sumN f k + f k
theorem sumN_le {f : Nat → Nat} {b : Nat} : ∀ {n : Nat}, (∀ i, i < n → f i ≤ b) → sumN f n ≤ n * b
  | 0, _ => by simp [sumN]
  | n + 1, h => by
    have h1 := sumN_le (f := f) (b := b) (n := n) (fun i hi => h i (by omega))
    have h2 := h n (by omega)
    show sumN f n + f n ≤ (n + 1) * b
    rw [Nat.succ_mul]
    omega
theorem sumN_congr {f g : Nat → Nat} : ∀ {n : Nat}, (∀ i, i < n → f i = g i) → sumN f n = sumN g n
  | 0, _ => rfl
  | n + 1, h => by
    show sumN f n + f n = sumN g n + g n
    rw [sumN_congr (fun i hi => h i (by omega)), h n (by omega)]
