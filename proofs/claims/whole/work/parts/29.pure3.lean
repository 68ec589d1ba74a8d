/-! what is SEEN, whose sock was dyed -/
abbrev SE : Type := List (Nat × Nat × Option Nat)
def mN : Option Nat → Nat
  | none => 0
  | some q => q + 1
theorem mI_1 (m : Option Nat) : mI m + nI 1 = nI (mN m) := by
  cases m with
  | none => rfl
  | some q => exact nI_add q 1
/-- all mates in one number -/
def rcd (n : Nat) (m : MM) : Nat := fld n 0 (fun v p => 11 * v + mN (m p)) 0
def sok (w : WT) (c : Nat → Nat) (s : HM) (se : SE) : Bool := se.all (fun e => decide ((many w c s e.2.1).2 e.1 = e.2.2))
/-- the colours with one dyed -/
def cdy (c : Nat → Nat) (g : Nat) : Nat → Nat := fun i => if i = g / 10 then g % 10 else c i
def gss (w : WT) (c : Nat → Nat) (s : HM) (se : SE) (g : Nat) : Bool := decide (¬ c (g / 10) = g % 10) && sok w (cdy c g) s se
def gl (p : Nat → Bool) (n : Nat) : List Nat := (List.range n).filter p
theorem gl_succ (p : Nat → Bool) (n : Nat) : gl p (n + 1) = gl p n ++ (if p n then [n] else []) := by
  unfold gl
  rw [List.range_succ, List.filter_append]
  congr 1
  cases h : p n <;> simp [h]
theorem gl_len (p : Nat → Bool) : ∀ n, (gl p n).length = cntF p n
  | 0 => rfl
  | n + 1 => by
    rw [gl_succ, List.length_append, gl_len p n]
    show _ = cntF p n + _
    cases p n <;> rfl
theorem cntF_mono (p : Nat → Bool) {a b : Nat} (h : a ≤ b) : cntF p a ≤ cntF p b := by
  induction b with
  | zero => rw [Nat.le_zero.mp h]; exact Nat.le_refl _
  | succ b ih =>
    by_cases e : a = b + 1
    · rw [e]; exact Nat.le_refl _
    · exact Nat.le_trans (ih (by omega)) (Nat.le_add_right _ _)
theorem cntF_add (p : Nat → Bool) (a : Nat) : ∀ b, cntF p (a + b) = cntF p a + cntF (fun j => p (a + j)) b
  | 0 => rfl
  | b + 1 => by
    show cntF p (a + b) + (if p (a + b) then 1 else 0) = cntF p a + (cntF (fun j => p (a + j)) b + (if p (a + b) then 1 else 0))
    rw [cntF_add p a b]
    omega
theorem gss_le {w : WT} {c : Nat → Nat} {s : HM} {se : SE} : ∀ {i : Nat}, (∀ p, p < i → c p < 10) → cntF (gss w c s se) (10 * i) ≤ 9 * i
  | 0, _ => Nat.le_refl _
  | i + 1, h => by
    have ih := gss_le (w := w) (s := s) (se := se) (i := i) (fun p hp => h p (by omega))
    have hc := h i (by omega)
    rw [show 10 * (i + 1) = 10 * i + 10 by omega, cntF_add]
    have h1 := cntF_not (fun j => gss w c s se (10 * i + j)) 10
    have h2 : 0 < cntF (fun j => !gss w c s se (10 * i + j)) 10 := cntF_pos (a := c i) hc (by
      show (!gss w c s se (10 * i + c i)) = true
      unfold gss
      rw [show (10 * i + c i) / 10 = i by omega, show (10 * i + c i) % 10 = c i by omega]
      simp)
    omega
/-- what is told apart behind the k-th FAIR by these -/
def rwk (w : WT) (c : Nat → Nat) (s : HM) (g k : Nat) : Nat := rcd w.n (many w (cdy c g) s (k + 1)).2
def dst (f : Nat → Nat) (n : Nat) : Nat := cntF (fun a => (fnd a 0 (fun b => decide (f a = f b))).isNone) n
def nxtF (f : Nat → Nat → Nat) (n : Nat) (acc : Option Nat × Nat) (k : Nat) : Option Nat × Nat := if acc.2 < dst (fun a => f a k) n then (some (k + 1), dst (fun a => f a k) n) else acc
def nxtS (f : Nat → Nat → Nat) (n : Nat) : Option Nat × Nat := fld 20 0 (nxtF f n) (none, 0)
theorem rcd_lt {n : Nat} {m : MM} (hn : n ≤ 10) (hm : ∀ p, p < n → ∀ q, m p = some q → q < 10) : rcd n m < 11 ^ 10 := by
  have h := fld_inv (n := n) (f := fun v p => 11 * v + mN (m p)) (p := fun k v => v < 11 ^ k) (i := 0) (acc := 0) (by decide) (fun j v _ hj hv => by
    have h1 : mN (m j) ≤ 10 := by
      cases e : m j with
      | none => exact Nat.zero_le _
      | some q =>
        have := hm j hj q e
        show q + 1 ≤ 10
        omega
    show 11 * v + mN (m j) < 11 ^ (j + 1)
    rw [Nat.pow_succ]
    omega) (Nat.zero_le _)
  exact Nat.lt_of_lt_of_le h (Nat.pow_le_pow_right (by decide) hn)
