/-! rows of mates as numbers, how many are unlike -/
theorem e11 {f g : Nat → Nat} : ∀ {n : Nat}, (∀ p, p < n → f p < 11) → (∀ p, p < n → g p < 11) → (fld n 0 (fun v p => 11 * v + f p) 0 = fld n 0 (fun v p => 11 * v + g p) 0 ↔ ∀ p, p < n → f p = g p)
  | 0, _, _ => ⟨fun _ p hp => absurd hp (by omega), fun _ => rfl⟩
  | n + 1, hf, hg => by
    have ih := e11 (f := f) (g := g) (n := n) (fun p hp => hf p (by omega)) (fun p hp => hg p (by omega))
    rw [fld_succ (Nat.zero_le _), fld_succ (Nat.zero_le _)]
    have h1 := hf n (by omega)
    have h2 := hg n (by omega)
    constructor
    · intro e p hp
      have e' : 11 * fld n 0 (fun v p => 11 * v + f p) 0 + f n = 11 * fld n 0 (fun v p => 11 * v + g p) 0 + g n := e
      by_cases q : p = n
      · subst q
        omega
      · exact ih.mp (by omega) p (by omega)
    · intro e
      show 11 * fld n 0 (fun v p => 11 * v + f p) 0 + f n = 11 * fld n 0 (fun v p => 11 * v + g p) 0 + g n
      rw [ih.mpr (fun p hp => e p (by omega)), e n (by omega)]
theorem e16 {f g : Nat → Nat} : ∀ {n : Nat}, (∀ p, p < n → f p < 16) → (∀ p, p < n → g p < 16) → (fld n 0 (fun v p => 16 * v + f p) 0 = fld n 0 (fun v p => 16 * v + g p) 0 ↔ ∀ p, p < n → f p = g p)
  | 0, _, _ => ⟨fun _ p hp => absurd hp (by omega), fun _ => rfl⟩
  | n + 1, hf, hg => by
    have ih := e16 (f := f) (g := g) (n := n) (fun p hp => hf p (by omega)) (fun p hp => hg p (by omega))
    rw [fld_succ (Nat.zero_le _), fld_succ (Nat.zero_le _)]
    have h1 := hf n (by omega)
    have h2 := hg n (by omega)
    constructor
    · intro e p hp
      have e' : 16 * fld n 0 (fun v p => 16 * v + f p) 0 + f n = 16 * fld n 0 (fun v p => 16 * v + g p) 0 + g n := e
      by_cases q : p = n
      · subst q
        omega
      · exact ih.mp (by omega) p (by omega)
    · intro e
      show 16 * fld n 0 (fun v p => 16 * v + f p) 0 + f n = 16 * fld n 0 (fun v p => 16 * v + g p) 0 + g n
      rw [ih.mpr (fun p hp => e p (by omega)), e n (by omega)]
theorem mN_lt {n : Nat} {m : MM} (hn : n ≤ 10) (hg : gm n m) {p : Nat} (hp : p < n) : mN (m p) < 11 := by
  cases e : m p with
  | none => decide
  | some q =>
    have := (hg p hp q e).1
    show q + 1 < 11
    omega
theorem rows_iff {n : Nat} {m m' : MM} (hn : n ≤ 10) (hg : gm n m) (hg' : gm n m') : rcd n m = rcd n m' ↔ rc4 n m = rc4 n m' := by
  have a1 := e11 (f := fun p => mN (m p)) (g := fun p => mN (m' p)) (n := n) (fun p hp => mN_lt hn hg hp) (fun p hp => mN_lt hn hg' hp)
  have a2 := e16 (f := fun p => mN (m p)) (g := fun p => mN (m' p)) (n := n) (fun p hp => by have := mN_lt hn hg hp; show mN (m p) < 16; omega) (fun p hp => by have := mN_lt hn hg' hp; show mN (m' p) < 16; omega)
  exact a1.trans a2.symm
/-- one more, if it isn't there -/
def ad (D : List Nat) (r : Nat) : List Nat := if D.contains r = true then D else D ++ [r]
def nb (g : Nat → Nat) : Nat → List Nat
  | 0 => []
  | k + 1 => ad (nb g k) (g k)
theorem nb_mem {g : Nat → Nat} {x : Nat} : ∀ {k : Nat}, x ∈ nb g k ↔ ∃ b, b < k ∧ g b = x
  | 0 => ⟨fun h => absurd h List.not_mem_nil, fun ⟨b, hb, _⟩ => absurd hb (by omega)⟩
  | k + 1 => by
    show x ∈ ad (nb g k) (g k) ↔ _
    unfold ad
    by_cases hc : (nb g k).contains (g k) = true
    · rw [if_pos hc, nb_mem]
      constructor
      · rintro ⟨b, h1, h2⟩
        exact ⟨b, by omega, h2⟩
      · rintro ⟨b, h1, h2⟩
        by_cases e : b = k
        · subst e
          have := List.contains_iff_mem.mp hc
          rw [h2] at this
          exact nb_mem.mp this
        · exact ⟨b, by omega, h2⟩
    · rw [if_neg hc, List.mem_append, List.mem_singleton, nb_mem]
      constructor
      · rintro (⟨b, h1, h2⟩ | h)
        · exact ⟨b, by omega, h2⟩
        · exact ⟨k, by omega, h.symm⟩
      · rintro ⟨b, h1, h2⟩
        by_cases e : b = k
        · subst e
          exact Or.inr h2.symm
        · exact Or.inl ⟨b, by omega, h2⟩
theorem nb_len {g : Nat → Nat} : ∀ k, (nb g k).length = dst g k
  | 0 => rfl
  | k + 1 => by
    show (ad (nb g k) (g k)).length = dst g k + (if (fnd k 0 (fun b => decide (g k = g b))).isNone = true then 1 else 0)
    unfold ad
    by_cases hc : (nb g k).contains (g k) = true
    · obtain ⟨b, h1, h2⟩ := nb_mem.mp (List.contains_iff_mem.mp hc)
      rw [if_pos hc, nb_len k]
      cases e : fnd k 0 (fun b => decide (g k = g b)) with
      | none =>
        have := fnd_none.mp e b (by omega) h1
        simp [h2] at this
      | some z => rfl
    · rw [if_neg hc, List.length_append, nb_len k]
      cases e : fnd k 0 (fun b => decide (g k = g b)) with
      | none => rfl
      | some z =>
        exfalso
        obtain ⟨-, z2, z3, -⟩ := fnd_some e
        exact hc (List.contains_iff_mem.mpr (nb_mem.mpr ⟨z, z2, (of_decide_eq_true z3).symm⟩))
theorem nb_le (g : Nat → Nat) (k : Nat) : (nb g k).length ≤ k := by
  rw [nb_len]
  exact cntF_le _ _
theorem dst_iff {f g : Nat → Nat} {n : Nat} (h : ∀ a b, a < n → b < n → (f a = f b ↔ g a = g b)) : dst f n = dst g n := cntF_congr (fun a ha => by
  show (fnd a 0 (fun b => decide (f a = f b))).isNone = (fnd a 0 (fun b => decide (g a = g b))).isNone
  rw [fnd_congr (p' := fun b => decide (g a = g b)) (fun b _ hb => decide_eq_decide.mpr (h a b ha (by omega)))])
theorem gl_pre (p : Nat → Bool) (g : Nat) : ∀ k, ∃ r, gl p (g + k) = gl p g ++ r
  | 0 => ⟨[], by simp⟩
  | k + 1 => by
    obtain ⟨r, hr⟩ := gl_pre p g k
    exact ⟨r ++ (if p (g + k) then [g + k] else []), by rw [show g + (k + 1) = (g + k) + 1 by omega, gl_succ, hr, List.append_assoc]⟩
theorem gl_at {p : Nat → Bool} {g N : Nat} (hp : p g = true) (hg : g < N) : (gl p N).getD (cntF p g) 0 = g := by
  obtain ⟨r, hr⟩ := gl_pre p (g + 1) (N - (g + 1))
  rw [show g + 1 + (N - (g + 1)) = N by omega, gl_succ, hp, if_pos rfl, List.append_assoc] at hr
  rw [hr, List.getD_eq_getElem?_getD, List.getElem?_append_right (by rw [gl_len]; exact Nat.le_refl _), gl_len, Nat.sub_self]
  rfl
theorem cnt_fnd {p : Nat → Bool} {g : Nat} (h : cntF p g = 0) : fnd g 0 p = none := fnd_none.mpr (fun j _ hj => by
  cases e : p j with
  | false => rfl
  | true =>
    have := cntF_pos hj e
    omega)
theorem cnt_fnd2 {p : Nat → Bool} {g : Nat} (h : cntF p g ≠ 0) : ∃ z, fnd g 0 p = some z := by
  cases e : fnd g 0 p with
  | some z => exact ⟨z, rfl⟩
  | none => exact absurd (cntF_0 (fun i hi => fnd_none.mp e i (by omega) hi)) h
theorem fld_split {α : Type} {f : α → Nat → α} {n k : Nat} (hk : k ≤ n) : ∀ i, i ≤ k → ∀ acc, fld n i f acc = fld n k f (fld k i f acc) := by
  refine loop_up (fun acc => by rw [fld_end (n := k) (Nat.le_refl _)]) (fun i hi ih acc => ?_)
  rw [fld_step (show i < n by omega), fld_step hi]
  exact ih _
theorem dst_c {f : Nat → Nat} {n : Nat} (h : ∀ a, a < n → f a = f 0) : dst f n ≤ 1 := by
  have : ∀ k, k ≤ n → dst f k ≤ 1 ∧ (1 ≤ k → 1 ≤ dst f k) := by
    intro k
    induction k with
    | zero => intro _; exact ⟨Nat.zero_le _, fun q => absurd q (by omega)⟩
    | succ k ih =>
      intro hk
      obtain ⟨i1, i2⟩ := ih (by omega)
      have e : dst f (k + 1) = dst f k + (if (fnd k 0 (fun b => decide (f k = f b))).isNone = true then 1 else 0) := rfl
      rw [e]
      by_cases h0 : k = 0
      · subst h0
        exact ⟨by show dst f 0 + _ ≤ 1; rw [show dst f 0 = 0 from rfl]; split <;> omega, fun _ => by rw [fnd_end (Nat.le_refl _)]; exact Nat.le_add_left _ _⟩
      · rw [fnd_yes (n := k) (i := 0) (by omega) (decide_eq_true (h k (by omega)))]
        exact ⟨by show dst f k + 0 ≤ 1; omega, fun _ => by show 1 ≤ dst f k + 0; have := i2 (by omega); omega⟩
  exact (this n (Nat.le_refl _)).1
theorem dst_pos {f : Nat → Nat} {n : Nat} (h : 0 < n) : 1 ≤ dst f n := cntF_pos (a := 0) h (by rw [fnd_end (Nat.le_refl _)]; rfl)
/-- behind eight FAIRS nothing more is told -/
theorem nxt_8 {f : Nat → Nat → Nat} {n : Nat} (hn : 0 < n) (h8 : ∀ k, 8 ≤ k → ∀ a, a < n → f a k = f 0 k) : nxtS f n = fld 8 1 (nxtF f n) (some 1, dst (fun a => f a 0) n) := by
  unfold nxtS
  rw [fld_split (n := 20) (k := 8) (by omega) 0 (by omega), fld_step (n := 8) (i := 0) (by omega), show nxtF f n (none, 0) 0 = (some 1, dst (fun a => f a 0) n) from if_pos (show 0 < dst (fun a => f a 0) n from dst_pos hn)]
  have key : ∀ acc : Option Nat × Nat, 1 ≤ acc.2 → fld 20 8 (nxtF f n) acc = acc := by
    intro acc ha
    refine fld_inv (α := Option Nat × Nat) (n := 20) (f := nxtF f n) (p := fun _ x => x = acc) (i := 8) (acc := acc) rfl (fun j x h1 h2 hx => ?_) (by omega)
    subst hx
    exact if_neg (by have := dst_c (f := fun a => f a j) (n := n) (fun a ha => h8 j h1 a ha); omega)
  refine key _ ?_
  refine fld_inv (α := Option Nat × Nat) (n := 8) (f := nxtF f n) (p := fun _ x => 1 ≤ x.2) (i := 1) (acc := (some 1, dst (fun a => f a 0) n)) (dst_pos hn) (fun j x h1 h2 hx => ?_) (by omega)
  unfold nxtF
  split
  · exact dst_pos hn
  · exact hx
theorem nxt_0 {f : Nat → Nat → Nat} : nxtS f 0 = (none, 0) := by
  unfold nxtS
  exact fld_inv (α := Option Nat × Nat) (n := 20) (f := nxtF f 0) (p := fun _ x => x = (none, 0)) (i := 0) (acc := (none, 0)) rfl (fun j x _ _ hx => by subst hx; exact if_neg (by show ¬ 0 < dst _ 0; exact Nat.lt_irrefl 0)) (by omega)
theorem Eqf.drop {x : Nat} {cs : List Nat} {fs : List (Nat × Nat)} {I I' : mj_I} (e : Eqf (frm (x :: cs) fs) I I') (h : ∀ j, I' x j = I x j) : Eqf (frm cs fs) I I' := by
  intro cc j q
  by_cases hc : cc = x
  · subst hc
    exact h j
  · refine e cc j ?_
    unfold frm at q ⊢
    rw [List.any_cons, show (cc == x) = false from by simp [hc], Bool.false_or]
    exact q
