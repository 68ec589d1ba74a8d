/-! a FAIR: who is bound, what wears, who is unbound -/
abbrev MM : Type := Nat → Option Nat
def bnd (m : MM) (a b : Nat) : MM := fun p => if p = b then some a else if p = a then some b else m p
def unb (m : MM) (a b : Nat) : MM := fun p => if p = b then none else if p = a then none else m p
def bstF (al : Nat → Nat → Int32) (m : MM) (a : Nat) (acc : Option (Nat × Nat) × Int32) (b : Nat) : Option (Nat × Nat) × Int32 := if m a = none ∧ m b = none ∧ acc.2 < al a b then (some (a, b), al a b) else acc
/-- the couple of free ones that is most alike, the first of like ones -/
def bst (n : Nat) (al : Nat → Nat → Int32) (m : MM) : Option (Nat × Nat) × Int32 := fld n 0 (fun acc a => fld n (a + 1) (bstF al m a) acc) (none, 0)
def bI : Option (Nat × Nat) → Int32
  | none => -(nI 1)
  | some q => nI (10 * q.1 + q.2)
def bal (n : Nat) (al : Nat → Nat → Int32) : Nat → MM → MM
  | 0, m => m
  | k + 1, m => match (bst n al m).1 with
    | none => m
    | some q => bal n al k (bnd m q.1 q.2)
def hup (h : Nat → Nat) : Nat → Nat := fun p => if h p < 9 then h p + 1 else h p
def prtF (wn : Nat → Bool) (acc : MM × Nat) (p : Nat) : MM × Nat := if wn p = true then (match acc.1 p with
    | none => acc
    | some q => (unb acc.1 p q, acc.2 + 1)) else acc
/-- who is worn through is unbound: the bindings, how many couples -/
def prt (n : Nat) (wn : Nat → Bool) (m : MM) : MM × Nat := fld n 0 (prtF wn) (m, 0)
abbrev HM : Type := (Nat → Nat) × MM
def hldm (w : WT) (c : Nat → Nat) (s : HM) : MM × Nat := prt w.n (fun p => decide (9 ≤ hup s.1 p)) (bal w.n (alk w c s.1) w.n s.2)
def hld (w : WT) (c : Nat → Nat) (s : HM) : HM := (hup s.1, (hldm w c s).1)
def many (w : WT) (c : Nat → Nat) (s : HM) : Nat → HM
  | 0 => s
  | k + 1 => hld w c (many w c s k)
/-- how many are free -/
def fre (n : Nat) (m : MM) : Nat := cntF (fun p => decide (m p = none)) n
theorem fre_le (n : Nat) (m : MM) : fre n m ≤ n := cntF_le _ _
def bstP (n : Nat) (al : Nat → Nat → Int32) (m : MM) (acc : Option (Nat × Nat) × Int32) : Prop := (∀ q, acc.1 = some q → q.1 < q.2 ∧ q.2 < n ∧ m q.1 = none ∧ m q.2 = none ∧ 0 < al q.1 q.2) ∧ 0 ≤ acc.2
theorem bst_ok {n : Nat} {al : Nat → Nat → Int32} {m : MM} : ∀ q, (bst n al m).1 = some q → q.1 < q.2 ∧ q.2 < n ∧ m q.1 = none ∧ m q.2 = none ∧ 0 < al q.1 q.2 := by
  have h : ∀ a acc, bstP n al m acc → a < n → bstP n al m (fld n (a + 1) (bstF al m a) acc) := by
    intro a acc h0 ha
    refine fld_inv (p := fun _ acc => bstP n al m acc) h0 ?_ (by omega)
    intro j acc h1 h2 h3
    unfold bstF
    split
    · rename_i hc
      have hp : 0 < al a j := by
        have := hc.2.2
        have h4 := h3.2
        exact Int32.lt_iff_toInt_lt.mpr (by have h5 := Int32.lt_iff_toInt_lt.mp this; have h6 := Int32.le_iff_toInt_le.mp h4; omega)
      refine ⟨?_, Int32.le_of_lt hp⟩
      intro q hq
      cases hq
      exact ⟨by show a < j; omega, h2, hc.1, hc.2.1, hp⟩
    · exact h3
  have h2 := fld_inv (n := n) (f := fun acc a => fld n (a + 1) (bstF al m a) acc) (p := fun _ acc => bstP n al m acc) (i := 0) (acc := (none, 0)) ⟨fun q hq => (by cases hq), by decide⟩ (fun j a _ hj hp => h j a hp hj) (by omega)
  exact h2.1
theorem bst_none {n : Nat} {al : Nat → Nat → Int32} {m : MM} (h : fre n m = 0) : (bst n al m).1 = none := by
  cases e : (bst n al m).1 with
  | none => rfl
  | some q =>
    obtain ⟨h1, h2, h3, -, -⟩ := bst_ok q e
    have := cntF_pos (p := fun p => decide (m p = none)) (n := n) (a := q.1) (by omega) (by simp [h3])
    unfold fre at h
    omega
theorem fre_bnd {n : Nat} {m : MM} {a b : Nat} (ha : a < n) (hb : b < n) (hab : a ≠ b) (h1 : m a = none) (h2 : m b = none) : fre n (bnd m a b) + 2 = fre n m := by
  unfold fre
  have e1 := cntF_set (fun p => decide (m p = none)) a (by simp [h1]) ha
  have e2 := cntF_set (fun i => decide (m i = none) && !decide (i = a)) b (by simp [h2]; omega) hb
  rw [← e1, ← e2]
  rw [cntF_congr (p := fun p => decide (bnd m a b p = none)) (p' := fun i => (decide (m i = none) && !decide (i = a)) && !decide (i = b)) (fun i hi => by
    unfold bnd
    by_cases q1 : i = b
    · simp [q1]
    · by_cases q2 : i = a
      · subst q2
        simp [q1]
      · simp [q1, q2])]
theorem gm_bnd {n : Nat} {m : MM} {a b : Nat} (hg : gm n m) (ha : a < n) (hb : b < n) (hab : a ≠ b) (h1 : m a = none) (h2 : m b = none) : gm n (bnd m a b) := by
  intro p hp q hq
  unfold bnd at hq ⊢
  by_cases e1 : p = b
  · rw [if_pos e1] at hq
    cases hq
    subst e1
    rw [if_neg hab, if_pos rfl]
    exact ⟨ha, hab, rfl⟩
  · rw [if_neg e1] at hq
    by_cases e2 : p = a
    · rw [if_pos e2] at hq
      cases hq
      subst e2
      rw [if_pos rfl]
      exact ⟨hb, fun e => hab e.symm, rfl⟩
    · rw [if_neg e2] at hq
      obtain ⟨h3, h4, h5⟩ := hg p hp q hq
      have n1 : q ≠ b := fun e => by rw [e, h2] at h5; cases h5
      have n2 : q ≠ a := fun e => by rw [e, h1] at h5; cases h5
      rw [if_neg n1, if_neg n2]
      exact ⟨h3, h4, h5⟩
theorem gm_unb {n : Nat} {m : MM} {a b : Nat} (hg : gm n m) (ha : a < n) (h1 : m a = some b) : gm n (unb m a b) := by
  obtain ⟨hb, hab, h2⟩ := hg a ha b h1
  intro p hp q hq
  unfold unb at hq ⊢
  by_cases e1 : p = b
  · rw [if_pos e1] at hq
    cases hq
  · rw [if_neg e1] at hq
    by_cases e2 : p = a
    · rw [if_pos e2] at hq
      cases hq
    · rw [if_neg e2] at hq
      obtain ⟨h3, h4, h5⟩ := hg p hp q hq
      have n1 : q ≠ b := fun e => by rw [e, h2] at h5; cases h5; exact e2 rfl
      have n2 : q ≠ a := fun e => by rw [e, h1] at h5; cases h5; exact e1 rfl
      rw [if_neg n1, if_neg n2]
      exact ⟨h3, h4, h5⟩
theorem gm_bal {n : Nat} {al : Nat → Nat → Int32} : ∀ (k : Nat) {m : MM}, gm n m → gm n (bal n al k m)
  | 0, _, h => h
  | k + 1, m, h => by
    unfold bal
    cases e : (bst n al m).1 with
    | none => exact h
    | some q =>
      obtain ⟨h1, h2, h3, h4, -⟩ := bst_ok q e
      exact gm_bal k (gm_bnd h (by omega) h2 (by omega) h3 h4)
theorem prtF_gm {n : Nat} {wn : Nat → Bool} {acc : MM × Nat} {p : Nat} (h : gm n acc.1) (hp : p < n) : gm n (prtF wn acc p).1 := by
  unfold prtF
  split
  · cases e : acc.1 p with
    | none => exact h
    | some q => exact gm_unb h hp e
  · exact h
theorem gm_prt {n : Nat} {wn : Nat → Bool} {m : MM} (h : gm n m) : gm n (prt n wn m).1 := fld_inv (α := MM × Nat) (p := fun _ acc => gm n acc.1) h (fun _ _ _ hj ha => prtF_gm ha hj) (by omega)
theorem hup_le {h : Nat → Nat} {p : Nat} (hp : h p < 10) : hup h p < 10 := by
  unfold hup
  split <;> omega
theorem prtF_no {wn : Nat → Bool} {acc : MM × Nat} {p : Nat} (h : wn p = false) : prtF wn acc p = acc := by
  unfold prtF
  rw [if_neg (by rw [h]; decide)]
theorem prtF_0 {wn : Nat → Bool} {m : MM} {x p : Nat} (h : m p = none) : prtF wn (m, x) p = (m, x) := by
  unfold prtF
  split
  · show (match m p with
      | none => (m, x)
      | some q => (unb m p q, x + 1)) = _
    rw [h]
  · rfl
theorem prtF_1 {wn : Nat → Bool} {m : MM} {x p q : Nat} (hw : wn p = true) (h : m p = some q) : prtF wn (m, x) p = (unb m p q, x + 1) := by
  unfold prtF
  rw [if_pos hw]
  show (match m p with
      | none => (m, x)
      | some q => (unb m p q, x + 1)) = _
  rw [h]
/-! who may be bound to whom, whom one would rather have -/
def my (w : WT) (c h : Nat → Nat) (p q : Nat) : Bool := decide (p ≠ q ∧ 0 < alk w c h p q)
def rth (w : WT) (c h : Nat → Nat) (m : MM) (p q : Nat) : Bool := my w c h p q && (match m p with
  | none => true
  | some b => decide (lik w c h p b < lik w c h p q))
/-- whom one would rather have than b -/
def rtb (w : WT) (c h : Nat → Nat) (p b q : Nat) : Bool := my w c h p q && decide (lik w c h p b < lik w c h p q)
theorem rth_some {w : WT} {c h : Nat → Nat} {m : MM} {p b : Nat} (e : m p = some b) : rth w c h m p = rtb w c h p b := by
  funext q
  unfold rth rtb
  rw [e]
theorem rth_none {w : WT} {c h : Nat → Nat} {m : MM} {p : Nat} (e : m p = none) : rth w c h m p = my w c h p := by
  funext q
  unfold rth
  rw [e]
  simp
def rthi (w : WT) (c h : Nat → Nat) (p b i q : Nat) : Bool := my w c h p q && (decide (i ≤ q) || decide (lik w c h p b < lik w c h p q))
def bm (m : MM) (p : Nat) : Bool := decide (m p ≠ none)
theorem rthi_cl {w : WT} {c h : Nat → Nat} {p b i n : Nat} (h3 : ¬ lik w c h p b < lik w c h p i) : maskF (fun j => rthi w c h p b i j && !decide (j = i)) n = maskF (rthi w c h p b (i + 1)) n := by
  refine mask_congr (fun q hq => ?_)
  unfold rthi
  by_cases e : q = i
  · subst e
    simp [h3]
  · rw [show decide (i + 1 ≤ q) = decide (i ≤ q) from decide_eq_decide.mpr (by omega)]
    simp [e]
