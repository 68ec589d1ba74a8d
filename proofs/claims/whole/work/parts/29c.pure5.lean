/-! all ways at rest, in the order of their rows -/
def rsc (F : (Nat → Bool) → MM → List MM) (ok : Nat → Nat → Bool) (n : Nat) (S : Nat → Bool) (m : MM) (p : Nat) : Nat → List MM
  | 0 => []
  | j + 1 => (if p < n - 1 - j ∧ S (n - 1 - j) = true ∧ ok p (n - 1 - j) = true then F (sm (sm S p) (n - 1 - j)) (bnd m p (n - 1 - j)) else []) ++ rsc F ok n S m p j
def rs (ok : Nat → Nat → Bool) (n : Nat) : Nat → (Nat → Bool) → MM → List MM
  | 0, _, m => [m]
  | i + 1, S, m => if S (n - 1 - i) = true then rsc (rs ok n i) ok n S m (n - 1 - i) n ++ rs ok n i (sm S (n - 1 - i)) m else rs ok n i S m
/-- would one leave whom one has for another one -/
def wl (li : Nat → Nat → Int32) (m : MM) (a b : Nat) : Bool := match m a with
  | none => true
  | some r => decide (li a r < li a b)
/-- two who would leave theirs for each other -/
def blk (ok : Nat → Nat → Bool) (li : Nat → Nat → Int32) (fr : Nat → Bool) (m : MM) (a b : Nat) : Bool := fr a && fr b && ok a b && !decide (m a = some b) && wl li m a b && wl li m b a
def stb (ok : Nat → Nat → Bool) (li : Nat → Nat → Int32) (fr : Nat → Bool) (n : Nat) (m : MM) : Bool := !anyB (fun a => anyB (fun b => decide (a < b) && blk ok li fr m a b) n) n
def fct : Nat → Nat
  | 0 => 1
  | k + 1 => (k + 1) * fct k
theorem rsc_len {F : (Nat → Bool) → MM → List MM} {ok : Nat → Nat → Bool} {n M : Nat} {S : Nat → Bool} {m : MM} {p : Nat} (hF : ∀ S m, (F S m).length ≤ M) : ∀ j, j ≤ n → (rsc F ok n S m p j).length ≤ (if n - 1 - p < j then n - 1 - p else j) * M
  | 0, _ => Nat.zero_le _
  | j + 1, hj => by
    have ih := rsc_len (n := n) (ok := ok) (S := S) (m := m) (p := p) hF j (by omega)
    show ((if _ then _ else _) ++ rsc F ok n S m p j).length ≤ _
    rw [List.length_append]
    by_cases hp : p < n - 1 - j
    · rw [if_neg (by omega)] at ih
      rw [show (if n - 1 - p < j + 1 then n - 1 - p else j + 1) = j + 1 from if_neg (by omega), Nat.succ_mul]
      split
      · have := hF (sm (sm S p) (n - 1 - j)) (bnd m p (n - 1 - j))
        omega
      · simp
        omega
    · rw [if_neg (fun q => hp q.1)]
      have e : (if n - 1 - p < j then n - 1 - p else j) ≤ (if n - 1 - p < j + 1 then n - 1 - p else j + 1) := by split <;> split <;> omega
      have := Nat.mul_le_mul_right M e
      simp
      omega
theorem rs_len {ok : Nat → Nat → Bool} {n : Nat} : ∀ (i : Nat) (S : Nat → Bool) (m : MM), i ≤ n → (rs ok n i S m).length ≤ fct i
  | 0, _, _, _ => Nat.le_refl _
  | i + 1, S, m, hi => by
    have ih := fun S m => rs_len (ok := ok) (n := n) i S m (by omega)
    show (if S (n - 1 - i) = true then rsc (rs ok n i) ok n S m (n - 1 - i) n ++ rs ok n i (sm S (n - 1 - i)) m else rs ok n i S m).length ≤ _
    have h1 : fct (i + 1) = (i + 1) * fct i := rfl
    rw [h1, Nat.succ_mul]
    split
    · rw [List.length_append]
      have h2 := rsc_len (ok := ok) (S := S) (m := m) (p := n - 1 - i) ih n (Nat.le_refl _)
      have h3 : (if n - 1 - (n - 1 - i) < n then n - 1 - (n - 1 - i) else n) ≤ i := by split <;> omega
      have h4 := Nat.mul_le_mul_right (fct i) h3
      have h5 := ih (sm S (n - 1 - i)) m
      omega
    · exact Nat.le_trans (ih S m) (by omega)
theorem fct_le : ∀ i, i ≤ 10 → fct i ≤ 3628800 := by decide
