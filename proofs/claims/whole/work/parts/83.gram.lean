/-! EXPR: by levels; the same by strengths -/
abbrev PR1 : Type := Sum (Nat × Nat) (Nat × RP)
def rb (r : PR1) (f : Nat → RP → PR1) : PR1 := match r with
  | .inl e => .inl e
  | .inr q => f q.1 q.2
def jn (l k : Nat) : Option Nat :=
  if l = 0 then (if k = 7 then some 5 else none)
  else if l = 1 then (if k = 8 then some 4 else none)
  else if l = 2 then (if k = 60 then some 6 else if k = 61 then some 7 else none)
  else if l = 3 then (if k = 43 then some 8 else if k = 45 then some 9 else none)
  else if l = 4 then (if k = 42 then some 10 else if k = 47 then some 11 else none)
  else none
/-- how many nots, seven at the most -/
def nts (K : Nat → Nat) : Nat → Nat → Nat
  | 0, _ => 0
  | c + 1, j => if K j = 9 then nts K c (j + 1) + 1 else 0
theorem nts_le {K : Nat → Nat} : ∀ {c j : Nat}, nts K c j ≤ c
  | 0, _ => Nat.le_refl _
  | c + 1, j => by
    unfold nts
    split
    · have := nts_le (K := K) (c := c) (j := j + 1)
      omega
    · omega
theorem nts_is {K : Nat → Nat} : ∀ {c j i : Nat}, i < nts K c j → K (j + i) = 9
  | 0, _, i, h => absurd h (by show ¬ i < 0; omega)
  | c + 1, j, i, h => by
    unfold nts at h
    by_cases q : K j = 9
    · rw [if_pos q] at h
      by_cases e : i = 0
      · subst e
        exact q
      · have := nts_is (K := K) (c := c) (j := j + 1) (i := i - 1) (by omega)
        rw [show j + 1 + (i - 1) = j + i by omega] at this
        exact this
    · rw [if_neg q] at h
      omega
theorem nts_not {K : Nat → Nat} : ∀ {c j : Nat}, nts K c j < c → K (j + nts K c j) ≠ 9
  | 0, _, h => absurd h (by omega)
  | c + 1, j, h => by
    unfold nts at h ⊢
    by_cases q : K j = 9
    · rw [if_pos q] at h ⊢
      have := nts_not (K := K) (c := c) (j := j + 1) (by omega)
      rw [show j + (nts K c (j + 1) + 1) = j + 1 + nts K c (j + 1) by omega]
      exact this
    · rw [if_neg q]
      exact q
section P
variable (K V G : Nat → Nat) (lo hi : Nat)
def ppt (j wi : Nat) (sub : PR1) : PR1 :=
  if K j = 20 then (if 4 < G j then .inl (2, j) else .inr (j + 1, [(1, V j)]))
  else if K j = 40 then (if 5 ≤ wi then .inl (if K (j + 1) ≤ 20 ∨ K (j + 1) = 40 then 2 else 1, j + 1) else rb sub (fun j2 R => if K j2 = 41 then .inr (j2 + 1, R) else .inl (1, j2)))
  else if K j ≤ 19 then (match mk (K j) with
    | none => .inl (3, j)
    | some v => if lo ≤ v ∧ v ≤ hi then .inr (j + 1, [(2, v)]) else .inl (3, j))
  else .inl (1, j)
def px : Nat → Nat → Nat → Nat → PR1
  | 0, _, _, j => .inl (99, j)
  | f + 1, md, wi, j =>
    if md = 5 then ppt K V G lo hi j wi (px f 0 (wi + 1) (j + 1))
    else if md = 2 then
      (if nts K 7 j = 7 then .inl (2, j + 6) else rb (px f 3 wi (j + nts K 7 j)) (fun j2 R => match jn 2 (K j2) with
        | none => .inr (j2, R ++ List.replicate (nts K 7 j) (3, 0))
        | some t => rb (px f 3 wi (j2 + 1)) (fun j3 R3 => .inr (j3, R ++ R3 ++ (t, 0) :: List.replicate (nts K 7 j) (3, 0)))))
    else if md < 5 then rb (px f (md + 1) wi j) (fun j2 R => rb (px f (md + 10) wi j2) (fun j3 R3 => .inr (j3, R ++ R3)))
    else (match jn (md - 10) (K j) with
      | none => .inr (j, [])
      | some t => rb (px f (md - 10 + 1) wi (j + 1)) (fun j2 R => rb (px f md wi j2) (fun j3 R3 => .inr (j3, R ++ (t, 0) :: R3))))
end P
def enc (R : RP) : List Nat := R.flatMap (fun q => if q.1 ≤ 2 then [q.1, q.2] else [q.1])
theorem enc_app (R S : RP) : enc (R ++ S) = enc R ++ enc S := List.flatMap_append
theorem enc_op {t : Nat} {R : RP} (h : 3 ≤ t) : enc ((t, 0) :: R) = t :: enc R := by
  unfold enc
  rw [List.flatMap_cons, if_neg (by show ¬ t ≤ 2; omega)]
  rfl
theorem enc_rep : ∀ a, enc (List.replicate a (3, 0)) = List.replicate a 3
  | 0 => rfl
  | a + 1 => by
    rw [List.replicate_succ, enc_op (by omega), enc_rep a]
    rfl
/-- strengths of levels -/
def sl (l : Nat) : Nat := if l = 0 then 1 else if l = 1 then 2 else if l = 2 then 3 else if l = 3 then 5 else 6
def ld (l : Nat) : Nat := if l = 0 then 1 else if l = 1 then 2 else if l = 2 then 4 else if l = 3 then 5 else 6
def cx2 (s : Nat) : List Nat → Prop
  | [] => True
  | a :: _ => a = 14 ∨ (a ≤ 11 ∧ stg a < s)
def PN (s : Nat) (p : List Nat) : Prop := ∀ a, a ∈ p → 3 ≤ a ∧ a ≤ 11 ∧ s ≤ stg a
theorem dp_pn {s : Nat} {W : List Nat} (hc : cx2 s W) : ∀ {p : List Nat}, PN s p → dpd s (p ++ W) = p ∧ dpr s (p ++ W) = W
  | [], _ => by
    cases W with
    | nil => exact ⟨rfl, rfl⟩
    | cons a W =>
      have c1 : ¬ (a < 14 ∧ s ≤ stg a) := fun q => by
        rcases hc with h | h
        · omega
        · omega
      exact ⟨if_neg c1, if_neg c1⟩
  | a :: p, h => by
    obtain ⟨h1, h2, h3⟩ := h a List.mem_cons_self
    obtain ⟨i1, i2⟩ := dp_pn hc (p := p) (fun x hx => h x (List.mem_cons_of_mem _ hx))
    have c1 : a < 14 ∧ s ≤ stg a := ⟨by omega, h3⟩
    exact ⟨(if_pos c1).trans (congrArg (a :: ·) i1), (if_pos c1).trans i2⟩
theorem PN.lo {s s' : Nat} {p : List Nat} (h : PN s p) (hs : s' ≤ s) : PN s' p := fun a ha => by
  obtain ⟨h1, h2, h3⟩ := h a ha
  exact ⟨h1, h2, by omega⟩
theorem PN.ap {s : Nat} {p q : List Nat} (h : PN s p) (h2 : PN s q) : PN s (p ++ q) := fun a ha => (List.mem_append.mp ha).elim (h a) (h2 a)
theorem PN.nil {s : Nat} : PN s [] := fun a ha => absurd ha List.not_mem_nil
theorem PN_rep {s a : Nat} (hs : s ≤ 3) : PN s (List.replicate a 3) := fun x hx => by
  rw [(List.mem_replicate.mp hx).2]
  exact ⟨by omega, by omega, hs⟩
theorem PN_one {s t : Nat} (h1 : 3 ≤ t) (h2 : t ≤ 11) (h3 : s ≤ stg t) : PN s [t] := fun x hx => by
  rw [List.mem_singleton.mp hx]
  exact ⟨h1, h2, h3⟩
theorem cx2_up {s s' : Nat} {W : List Nat} (h : cx2 s W) (hs : s ≤ s') : cx2 s' W := by
  cases W with
  | nil => trivial
  | cons a W => exact h.imp id (fun q => ⟨q.1, by omega⟩)
theorem cx2_rep {s a : Nat} {W : List Nat} (hs : 3 < s) (h : cx2 s W) : cx2 s (List.replicate a 3 ++ W) := by
  cases a with
  | zero => exact h
  | succ a => exact Or.inr ⟨by omega, hs⟩
theorem jn_ok {l k t : Nat} (h : jn l k = some t) : l ≤ 4 ∧ 3 ≤ t ∧ t ≤ 11 ∧ stg t = ld l := by
  unfold jn at h
  split at h
  · rename_i q; subst q; split at h
    · cases h; decide
    · cases h
  · split at h
    · rename_i q; subst q; split at h
      · cases h; decide
      · cases h
    · split at h
      · rename_i q; subst q; split at h
        · cases h; decide
        · split at h
          · cases h; decide
          · cases h
      · split at h
        · rename_i q; subst q; split at h
          · cases h; decide
          · split at h
            · cases h; decide
            · cases h
        · split at h
          · rename_i q; subst q; split at h
            · cases h; decide
            · split at h
              · cases h; decide
              · cases h
          · cases h
theorem jn_2 {k : Nat} : jn 2 k = none ↔ ¬ (k = 60 ∨ k = 61) := by
  unfold jn
  rw [if_neg (by omega), if_neg (by omega), if_pos rfl]
  by_cases h1 : k = 60
  · simp [h1]
  · by_cases h2 : k = 61
    · simp [h2]
    · simp [h1, h2]
theorem rb_inl {r : PR1} {f : Nat → RP → PR1} {e : Nat × Nat} (h : rb r f = .inl e) : r = .inl e ∨ ∃ j R, r = .inr (j, R) ∧ f j R = .inl e := by
  cases r with
  | inl e2 =>
    left
    exact h
  | inr q => exact Or.inr ⟨q.1, q.2, rfl, h⟩
theorem rb_inr {r : PR1} {f : Nat → RP → PR1} {x : Nat × RP} (h : rb r f = .inr x) : ∃ j R, r = .inr (j, R) ∧ f j R = .inr x := by
  cases r with
  | inl e2 => cases h
  | inr q => exact ⟨q.1, q.2, rfl, h⟩
section T
variable {K V G : Nat → Nat} {lo hi : Nat}
theorem px_5 {f wi j : Nat} : px K V G lo hi (f + 1) 5 wi j = ppt K V G lo hi j wi (px K V G lo hi f 0 (wi + 1) (j + 1)) := rfl
theorem px_2 {f wi j : Nat} : px K V G lo hi (f + 1) 2 wi j = (if nts K 7 j = 7 then .inl (2, j + 6) else rb (px K V G lo hi f 3 wi (j + nts K 7 j)) (fun j2 R => match jn 2 (K j2) with
        | none => .inr (j2, R ++ List.replicate (nts K 7 j) (3, 0))
        | some t => rb (px K V G lo hi f 3 wi (j2 + 1)) (fun j3 R3 => .inr (j3, R ++ R3 ++ (t, 0) :: List.replicate (nts K 7 j) (3, 0))))) := rfl
theorem px_L {f l wi j : Nat} (h : l = 0 ∨ l = 1 ∨ l = 3 ∨ l = 4) : px K V G lo hi (f + 1) l wi j = rb (px K V G lo hi f (l + 1) wi j) (fun j2 R => rb (px K V G lo hi f (l + 10) wi j2) (fun j3 R3 => .inr (j3, R ++ R3))) := by
  rcases h with rfl | rfl | rfl | rfl <;> rfl
theorem px_T {f l wi j : Nat} (h : l = 0 ∨ l = 1 ∨ l = 3 ∨ l = 4) : px K V G lo hi (f + 1) (l + 10) wi j = (match jn l (K j) with
      | none => .inr (j, [])
      | some t => rb (px K V G lo hi f (l + 1) wi (j + 1)) (fun j2 R => rb (px K V G lo hi f (l + 10) wi j2) (fun j3 R3 => .inr (j3, R ++ (t, 0) :: R3)))) := by
  rcases h with rfl | rfl | rfl | rfl <;> rfl
/-- behind a level no join of it, nor of a closer one, but tests -/
theorem px_nj : ∀ (f l wi j j2 : Nat) (R : RP), (l = 0 ∨ l = 1 ∨ l = 2 ∨ l = 3 ∨ l = 4 ∨ l = 10 ∨ l = 11 ∨ l = 13 ∨ l = 14) → (10 ≤ l → ∀ l', l - 10 < l' → l' ≠ 2 → jn l' (K j) = none) → px K V G lo hi f l wi j = .inr (j2, R) → ∀ l', (if 10 ≤ l then l - 10 else l) ≤ l' → l' ≠ 2 → jn l' (K j2) = none := by
  intro f
  induction f with
  | zero => intro l wi j j2 R _ _ h; cases h
  | succ f ih =>
    intro l wi j j2 R hl h10 h l' hl' hl2
    have lev : ∀ l, (l = 0 ∨ l = 1 ∨ l = 3 ∨ l = 4) → ∀ j0 j3 R3, px K V G lo hi f (l + 1) wi j0 = .inr (j3, R3) → ∀ l', l < l' → l' ≠ 2 → jn l' (K j3) = none := by
      intro l hl j0 j3 R3 h3 l' h1 h2
      by_cases h4 : l = 4
      · cases e : jn l' (K j3) with
        | none => rfl
        | some t =>
          have := (jn_ok e).1
          omega
      · have := ih (l + 1) wi j0 j3 R3 (by omega) (fun q => absurd q (by omega)) h3 l'
        rw [if_neg (by omega)] at this
        exact this (by omega) h2
    by_cases h2 : l = 2
    · subst h2
      rw [px_2] at h
      by_cases q : nts K 7 j = 7
      · rw [if_pos q] at h; cases h
      · rw [if_neg q] at h
        obtain ⟨j3, R3, e1, e2⟩ := rb_inr h
        rw [if_neg (by omega)] at hl'
        cases hj : jn 2 (K j3) with
        | none =>
          rw [hj] at e2
          cases e2
          have := ih 3 wi _ j2 R3 (by omega) (fun q => absurd q (by omega)) e1 l'
          rw [if_neg (by omega)] at this
          exact this (by omega) hl2
        | some t =>
          rw [hj] at e2
          obtain ⟨j4, R4, e3, e4⟩ := rb_inr e2
          cases e4
          have := ih 3 wi _ j2 R4 (by omega) (fun q => absurd q (by omega)) e3 l'
          rw [if_neg (by omega)] at this
          exact this (by omega) hl2
    · by_cases hT : 10 ≤ l
      · obtain ⟨l0, rfl⟩ : ∃ l0, l = l0 + 10 := ⟨l - 10, by omega⟩
        have hl0 : l0 = 0 ∨ l0 = 1 ∨ l0 = 3 ∨ l0 = 4 := by omega
        rw [if_pos hT, Nat.add_sub_cancel] at hl'
        rw [px_T hl0] at h
        cases hj : jn l0 (K j) with
        | none =>
          rw [hj] at h
          cases h
          by_cases e : l' = l0
          · rw [e]; exact hj
          · exact h10 hT l' (by omega) hl2
        | some t =>
          rw [hj] at h
          obtain ⟨j3, R3, e1, e2⟩ := rb_inr h
          obtain ⟨j4, R4, e3, e4⟩ := rb_inr e2
          cases e4
          have := ih (l0 + 10) wi j3 j2 R4 (by omega) (fun _ l' q1 q2 => lev l0 hl0 _ j3 R3 e1 l' (by omega) q2) e3 l'
          rw [if_pos (by omega), Nat.add_sub_cancel] at this
          exact this hl' hl2
      · have hl0 : l = 0 ∨ l = 1 ∨ l = 3 ∨ l = 4 := by omega
        rw [if_neg hT] at hl'
        rw [px_L hl0] at h
        obtain ⟨j3, R3, e1, e2⟩ := rb_inr h
        obtain ⟨j4, R4, e3, e4⟩ := rb_inr e2
        cases e4
        have := ih (l + 10) wi j3 j2 R4 (by omega) (fun _ l' q1 q2 => lev l hl0 _ j3 R3 e1 l' (by omega) q2) e3 l'
        rw [if_pos (by omega), Nat.add_sub_cancel] at this
        exact this hl' hl2
/-- what the model's reader may do -/
def tsn (l dp : Nat) (ts : Nat → Bool) : Nat → Bool := if l ≤ 1 then (fun i => if i = dp then false else ts i) else if l = 2 then (fun i => if i = dp then true else ts i) else ts
def RUL (K V G : Nat → Nat) (lo hi : Nat) (OP : Bool → Nat → List Nat → Nat → (Nat → Bool) → List Nat → Prop) (ON HD : Nat → List Nat → Nat → (Nat → Bool) → List Nat → Prop) (FL : Nat → Nat → Prop) : Prop :=
  (∀ j W dp ts O, nts K 7 j < 7 → ON (j + nts K 7 j) (List.replicate (nts K 7 j) 3 ++ W) dp ts O → OP true j W dp ts O)
  ∧ (∀ j W dp ts O, nts K 7 j = 7 → FL 2 (j + 6) → OP true j W dp ts O)
  ∧ (∀ j W dp ts O, ON j W dp ts O → OP false j W dp ts O)
  ∧ (∀ j W dp ts O, K j = 20 → G j ≤ 4 → HD (j + 1) W dp ts (O ++ [1, V j]) → ON j W dp ts O)
  ∧ (∀ j W dp ts O, K j = 20 → 4 < G j → FL 2 j → ON j W dp ts O)
  ∧ (∀ j W dp ts O v, K j ≤ 19 → mk (K j) = some v → lo ≤ v → v ≤ hi → HD (j + 1) W dp ts (O ++ [2, v]) → ON j W dp ts O)
  ∧ (∀ j W dp ts O, K j ≤ 19 → (∀ v, mk (K j) = some v → ¬ (lo ≤ v ∧ v ≤ hi)) → FL 3 j → ON j W dp ts O)
  ∧ (∀ j W dp ts O, 20 < K j → K j ≠ 40 → FL 1 j → ON j W dp ts O)
  ∧ (∀ j W dp ts O, K j = 40 → dp < 6 → OP true (j + 1) (14 :: W) (dp + 1) (fun i => if i = dp + 1 then false else ts i) O → ON j W dp ts O)
  ∧ (∀ j W dp ts O, K j = 40 → dp = 6 → FL (if K (j + 1) ≤ 20 ∨ K (j + 1) = 40 then 2 else 1) (j + 1) → ON j W dp ts O)
  ∧ (∀ l t j W dp ts O, jn l (K j) = some t → (l = 2 → ts dp = false) → OP (decide (l ≤ 1)) (j + 1) (t :: dpr (ld l) W) dp (tsn l dp ts) (O ++ dpd (ld l) W) → HD j W dp ts O)
  ∧ (∀ j W p W' dp ts O, K j = 41 → W = p ++ 14 :: W' → (∀ a, a ∈ p → 3 ≤ a ∧ a ≤ 11) → 2 ≤ dp → HD (j + 1) W' (dp - 1) ts (O ++ p) → HD j W dp ts O)
  ∧ (∀ j W dp ts O, (∀ l, l ≠ 2 → jn l (K j) = none) → (K j = 60 ∨ K j = 61 → ts dp = true) → K j ≠ 41 → 2 ≤ dp → FL 1 j → HD j W dp ts O)
variable {OP : Bool → Nat → List Nat → Nat → (Nat → Bool) → List Nat → Prop} {ON HD : Nat → List Nat → Nat → (Nat → Bool) → List Nat → Prop} {FL : Nat → Nat → Prop}
/-- where a level is read -/
def LV (OP : Bool → Nat → List Nat → Nat → (Nat → Bool) → List Nat → Prop) (ON : Nat → List Nat → Nat → (Nat → Bool) → List Nat → Prop) (l j : Nat) (W : List Nat) (dp : Nat) (ts : Nat → Bool) (O : List Nat) : Prop := if l ≤ 2 then OP true j W dp ts O else ON j W dp ts O
set_option maxHeartbeats 1000000 in
theorem SY (hr : RUL K V G lo hi OP ON HD FL) : ∀ f,
    (∀ l, l ≤ 4 → ∀ wi j W dp ts O, dp = wi + 1 → wi ≤ 5 → cx2 (sl l) W → (l ≤ 2 → ts dp = false) →
      (∀ c jf, px K V G lo hi f l wi j = .inl (c, jf) → c ≠ 99 → FL c jf → LV OP ON l j W dp ts O) ∧
      (∀ j2 R, px K V G lo hi f l wi j = .inr (j2, R) → (∀ p X ts', enc R = X ++ p → PN (sl l) p → (∀ i, i < dp → ts' i = ts i) → (3 ≤ l → ts' dp = ts dp) → (l ≤ 2 → (K j2 = 60 ∨ K j2 = 61) → ts' dp = true) → HD j2 (p ++ W) dp ts' (O ++ X)) → LV OP ON l j W dp ts O))
    ∧ (∀ wi j W dp ts O, dp = wi + 1 → wi ≤ 5 →
      (∀ c jf, px K V G lo hi f 5 wi j = .inl (c, jf) → c ≠ 99 → FL c jf → ON j W dp ts O) ∧
      (∀ j2 R, px K V G lo hi f 5 wi j = .inr (j2, R) → (∀ ts', (∀ i, i ≤ dp → ts' i = ts i) → HD j2 W dp ts' (O ++ enc R)) → ON j W dp ts O))
    ∧ (∀ l, (l = 0 ∨ l = 1 ∨ l = 3 ∨ l = 4) → ∀ wi j W dp ts O p, dp = wi + 1 → wi ≤ 5 → cx2 (sl l) W → PN (sl l) p → (l ≤ 1 → (K j = 60 ∨ K j = 61) → ts dp = true) →
      (∀ c jf, px K V G lo hi f (l + 10) wi j = .inl (c, jf) → c ≠ 99 → FL c jf → HD j (p ++ W) dp ts O) ∧
      (∀ j2 R, px K V G lo hi f (l + 10) wi j = .inr (j2, R) → (∀ p2 X ts', p ++ enc R = X ++ p2 → PN (sl l) p2 → (∀ i, i < dp → ts' i = ts i) → (3 ≤ l → ts' dp = ts dp) → (l ≤ 1 → (K j2 = 60 ∨ K j2 = 61) → ts' dp = true) → HD j2 (p2 ++ W) dp ts' (O ++ X)) → HD j (p ++ W) dp ts O)) := by
  obtain ⟨r1, r2, r3, r4, r5, r6, r7, r8, r9, r10, r11, r12, r13⟩ := hr
  intro f
  induction f with
  | zero =>
    refine ⟨fun l _ wi j W dp ts O _ _ _ _ => ⟨fun c jf h hc => ?_, fun j2 R h => by cases h⟩, fun wi j W dp ts O _ _ => ⟨fun c jf h hc => ?_, fun j2 R h => by cases h⟩, fun l _ wi j W dp ts O p _ _ _ _ _ => ⟨fun c jf h hc => ?_, fun j2 R h => by cases h⟩⟩
    all_goals
      cases h
      exact absurd rfl hc
  | succ f ih =>
    obtain ⟨ihL, ihP, ihT⟩ := ih
    -- what stands behind a join
    have behind : ∀ l, (l = 0 ∨ l = 1 ∨ l = 3 ∨ l = 4) → ∀ t, 3 ≤ t → t ≤ 11 → stg t = ld l → ∀ wi j W dp ts O, dp = wi + 1 → wi ≤ 5 → cx2 (sl l) W → (l ≤ 1 → ts dp = false) →
        (∀ c jf, px K V G lo hi f (l + 1) wi j = .inl (c, jf) → c ≠ 99 → FL c jf → OP (decide (l ≤ 1)) j (t :: W) dp ts O) ∧
        (∀ j2 R, px K V G lo hi f (l + 1) wi j = .inr (j2, R) → (∀ p X ts', enc R = X ++ p → PN (sl l) p → (∀ i, i < dp → ts' i = ts i) → (3 ≤ l → ts' dp = ts dp) → (l ≤ 1 → (K j2 = 60 ∨ K j2 = 61) → ts' dp = true) → HD j2 (p ++ t :: W) dp ts' (O ++ X)) → OP (decide (l ≤ 1)) j (t :: W) dp ts O) := by
      intro l hl t t3 t11 tst wi j W dp ts O hdp hwi hcx hts
      by_cases h4 : l = 4
      · subst h4
        obtain ⟨q1, q2⟩ := ihP wi j (t :: W) dp ts O hdp hwi
        refine ⟨fun c jf h hc hF => r3 _ _ _ _ _ (q1 c jf h hc hF), fun j2 R h hk => r3 _ _ _ _ _ (q2 j2 R h (fun ts' e => ?_))⟩
        have := hk [] (enc R) ts' (by rw [List.append_nil]) PN.nil (fun i hi => e i (by omega)) (fun _ => e dp (Nat.le_refl _)) (fun q => absurd q (by omega))
        exact this
      · have hcx2 : cx2 (sl (l + 1)) (t :: W) := Or.inr ⟨t11, by
          rw [tst]
          rcases hl with rfl | rfl | rfl | rfl
          · decide
          · decide
          · decide
          · exact absurd rfl h4⟩
        have hsl : sl l ≤ sl (l + 1) := by rcases hl with rfl | rfl | rfl | rfl <;> decide
        obtain ⟨q1, q2⟩ := ihL (l + 1) (by omega) wi j (t :: W) dp ts O hdp hwi hcx2 (fun q => hts (by omega))
        have cv : LV OP ON (l + 1) j (t :: W) dp ts O → OP (decide (l ≤ 1)) j (t :: W) dp ts O := by
          unfold LV
          by_cases h1 : l ≤ 1
          · rw [if_pos (by omega), decide_eq_true h1]
            exact id
          · rw [if_neg (by omega), decide_eq_false h1]
            exact r3 _ _ _ _ _
        exact ⟨fun c jf h hc hF => cv (q1 c jf h hc hF), fun j2 R h hk => cv (q2 j2 R h (fun p X ts' g1 g2 g3 g4 g5 => hk p X ts' g1 (g2.lo hsl) g3 (fun q => g4 (by omega)) (fun q => g5 (by omega))))⟩
    have ldsl : ∀ l, (l = 0 ∨ l = 1 ∨ l = 3 ∨ l = 4) → ld l = sl l := by
      rintro l (rfl | rfl | rfl | rfl) <;> rfl
    refine ⟨?_, ?_, ?_⟩
    · intro l hl4 wi j W dp ts O hdp hwi hcx hts
      by_cases h2 : l = 2
      · subst h2
        have goLV : OP true j W dp ts O → LV OP ON 2 j W dp ts O := fun h => h
        rw [px_2]
        by_cases q7 : nts K 7 j = 7
        · rw [if_pos q7]
          refine ⟨fun c jf h hc hF => ?_, fun j2 R h => by cases h⟩
          cases h
          exact goLV (r2 _ _ _ _ _ q7 hF)
        · rw [if_neg q7]
          have l7 : nts K 7 j < 7 := by have := nts_le (K := K) (c := 7) (j := j); omega
          generalize hna : nts K 7 j = na at *
          have hcx3 : cx2 (sl 3) (List.replicate na 3 ++ W) := cx2_rep (by decide) (cx2_up hcx (by decide))
          have hcx4 : cx2 4 (List.replicate na 3 ++ W) := cx2_rep (by decide) (cx2_up hcx (by decide))
          obtain ⟨q1, q2⟩ := ihL 3 (by omega) wi (j + na) (List.replicate na 3 ++ W) dp ts O hdp hwi hcx3 (fun q => absurd q (by omega))
          have toOP : ON (j + na) (List.replicate na 3 ++ W) dp ts O → LV OP ON 2 j W dp ts O := fun h => goLV (r1 j W dp ts O (by rw [hna]; exact l7) (by rw [hna]; exact h))
          -- the test
          have test : ∀ j2 t, jn 2 (K j2) = some t → ∀ p X ts', PN (sl 3) p → ts' dp = ts dp → ((∀ c jf, px K V G lo hi f 3 wi (j2 + 1) = .inl (c, jf) → c ≠ 99 → FL c jf → HD j2 (p ++ (List.replicate na 3 ++ W)) dp ts' (O ++ X)) ∧ (∀ j3 R3, px K V G lo hi f 3 wi (j2 + 1) = .inr (j3, R3) → (∀ p3 X3 ts3, enc R3 = X3 ++ p3 → PN (sl 3) p3 → (∀ i, i < dp → ts3 i = ts' i) → ts3 dp = true → HD j3 (p3 ++ t :: (List.replicate na 3 ++ W)) dp ts3 (O ++ X ++ p ++ X3)) → HD j2 (p ++ (List.replicate na 3 ++ W)) dp ts' (O ++ X))) := by
            intro j2 t ht p X ts' hp hts'
            obtain ⟨-, t3, t11, tst⟩ := jn_ok ht
            obtain ⟨d1, d2⟩ := dp_pn hcx4 (hp.lo (show 4 ≤ sl 3 by decide))
            have ld2 : ld 2 = 4 := rfl
            have hcx5 : cx2 (sl 3) (t :: (List.replicate na 3 ++ W)) := Or.inr ⟨t11, by rw [tst]; decide⟩
            have e1 : tsn 2 dp ts' = (fun i => if i = dp then true else ts' i) := rfl
            obtain ⟨w1, w2⟩ := ihL 3 (by omega) wi (j2 + 1) (t :: (List.replicate na 3 ++ W)) dp (tsn 2 dp ts') (O ++ X ++ p) hdp hwi hcx5 (fun q => absurd q (by omega))
            have go : ON (j2 + 1) (t :: (List.replicate na 3 ++ W)) dp (tsn 2 dp ts') (O ++ X ++ p) → HD j2 (p ++ (List.replicate na 3 ++ W)) dp ts' (O ++ X) := fun h => r11 2 t j2 _ dp ts' (O ++ X) ht (fun _ => hts'.trans (hts (by omega))) (by rw [ld2, d1, d2]; exact r3 _ _ _ _ _ h)
            refine ⟨fun c jf h hc hF => go (w1 c jf h hc hF), fun j3 R3 h hk => go (w2 j3 R3 h (fun p3 X3 ts3 g1 g2 g3 g4 _ => hk p3 X3 ts3 g1 g2 (fun i hi => ?_) ?_))⟩
            · rw [g3 i hi, e1]
              exact if_neg (by omega)
            · rw [g4 (by omega), e1]
              exact if_pos rfl
          refine ⟨fun c jf h hc hF => toOP ?_, fun j2 R h hk => toOP ?_⟩
          · rcases rb_inl h with h1 | ⟨j2, R, h1, h2⟩
            · exact q1 c jf h1 hc hF
            · refine q2 j2 R h1 (fun p X ts' g1 g2 g3 g4 _ => ?_)
              cases hj : jn 2 (K j2) with
              | none => rw [hj] at h2; cases h2
              | some t =>
                rw [hj] at h2
                rcases rb_inl h2 with h3 | ⟨j3, R3, -, h4⟩
                · exact (test j2 t hj p X ts' g2 (g4 (by omega))).1 c jf h3 hc hF
                · cases h4
          · obtain ⟨j3, R3, h1, h2⟩ := rb_inr h
            refine q2 j3 R3 h1 (fun p X ts' g1 g2 g3 g4 _ => ?_)
            cases hj : jn 2 (K j3) with
            | none =>
              rw [hj] at h2
              cases h2
              have := hk (p ++ List.replicate na 3) X ts' (by rw [enc_app, enc_rep, g1, List.append_assoc]) ((g2.lo (by decide)).ap (PN_rep (by decide))) g3 (fun q => absurd q (by omega)) (fun _ q => absurd q (jn_2.mp hj))
              rw [List.append_assoc] at this
              exact this
            | some t =>
              rw [hj] at h2
              obtain ⟨j4, R4, h3, h4⟩ := rb_inr h2
              cases h4
              obtain ⟨-, t3, t11, tst⟩ := jn_ok hj
              refine (test j3 t hj p X ts' g2 (g4 (by omega))).2 j2 R4 h3 (fun p3 X3 ts3 k1 k2 k3 k4 => ?_)
              have := hk (p3 ++ t :: List.replicate na 3) (X ++ p ++ X3) ts3 (by rw [enc_app, enc_app, enc_op t3, enc_rep, g1, k1]; simp only [List.append_assoc]) ((k2.lo (by decide)).ap (fun x hx => (List.mem_cons.mp hx).elim (fun e => by rw [e]; exact ⟨t3, t11, by rw [tst]; decide⟩) (PN_rep (s := sl 2) (by decide) x))) (fun i hi => (k3 i hi).trans (g3 i hi)) (fun q => absurd q (by omega)) (fun _ _ => k4)
              simp only [List.append_assoc, List.cons_append] at this ⊢
              exact this
      · have hl : l = 0 ∨ l = 1 ∨ l = 3 ∨ l = 4 := by omega
        rw [px_L hl]
        by_cases h4 : l = 4
        · subst h4
          obtain ⟨q1, q2⟩ := ihP wi j W dp ts O hdp hwi
          refine ⟨fun c jf h hc hF => ?_, fun j2 R h hk => ?_⟩
          · show ON j W dp ts O
            rcases rb_inl h with h1 | ⟨j2, R, h1, h2⟩
            · exact q1 c jf h1 hc hF
            · rcases rb_inl h2 with h3 | ⟨j3, R3, -, h4⟩
              · exact q2 j2 R h1 (fun ts' e => (ihT 4 (by omega) wi j2 W dp ts' (O ++ enc R) [] hdp hwi hcx PN.nil (fun q => absurd q (by omega))).1 c jf h3 hc hF)
              · cases h4
          · show ON j W dp ts O
            obtain ⟨j3, R3, h1, h2⟩ := rb_inr h
            obtain ⟨j4, R4, h3, h4⟩ := rb_inr h2
            cases h4
            refine q2 j3 R3 h1 (fun ts' e => (ihT 4 (by omega) wi j3 W dp ts' (O ++ enc R3) [] hdp hwi hcx PN.nil (fun q => absurd q (by omega))).2 j2 R4 h3 (fun p2 X ts'' g1 g2 g3 g4 g5 => ?_))
            have := hk p2 (enc R3 ++ X) ts'' (by rw [enc_app, List.append_assoc, ← g1]; rfl) g2 (fun i hi => (g3 i hi).trans (e i (by omega))) (fun q => (g4 q).trans (e dp (Nat.le_refl _))) (fun q => absurd q (by omega))
            rw [← List.append_assoc] at this
            exact this
        · have hsl : sl l ≤ sl (l + 1) := by rcases hl with rfl | rfl | rfl | rfl <;> decide
          obtain ⟨q1, q2⟩ := ihL (l + 1) (by omega) wi j W dp ts O hdp hwi (cx2_up hcx hsl) (fun q => hts (by omega))
          have cv : LV OP ON (l + 1) j W dp ts O → LV OP ON l j W dp ts O := by
            unfold LV
            by_cases h1 : l ≤ 1
            · rw [if_pos (by omega), if_pos (by omega)]
              exact id
            · rw [if_neg (by omega), if_neg (by omega)]
              exact id
          refine ⟨fun c jf h hc hF => cv ?_, fun j2 R h hk => cv ?_⟩
          · rcases rb_inl h with h1 | ⟨j2, R, h1, h2⟩
            · exact q1 c jf h1 hc hF
            · rcases rb_inl h2 with h3 | ⟨j3, R3, -, h4⟩
              · exact q2 j2 R h1 (fun p X ts' g1 g2 g3 g4 g5 => (ihT l hl wi j2 W dp ts' (O ++ X) p hdp hwi hcx (g2.lo hsl) (fun q => g5 (by omega))).1 c jf h3 hc hF)
              · cases h4
          · obtain ⟨j3, R3, h1, h2⟩ := rb_inr h
            obtain ⟨j4, R4, h3, h4⟩ := rb_inr h2
            cases h4
            refine q2 j3 R3 h1 (fun p X ts' g1 g2 g3 g4 g5 => (ihT l hl wi j3 W dp ts' (O ++ X) p hdp hwi hcx (g2.lo hsl) (fun q => g5 (by omega))).2 j2 R4 h3 (fun p2 X2 ts'' k1 k2 k3 k4 k5 => ?_))
            have := hk p2 (X ++ X2) ts'' (by rw [enc_app, g1, List.append_assoc, k1, List.append_assoc]) k2 (fun i hi => (k3 i hi).trans (g3 i hi)) (fun q => (k4 q).trans (g4 (by omega))) (fun q => k5 (by omega))
            rw [← List.append_assoc] at this
            exact this
    · intro wi j W dp ts O hdp hwi
      rw [px_5]
      unfold ppt
      by_cases k20 : K j = 20
      · rw [if_pos k20]
        by_cases g4 : 4 < G j
        · rw [if_pos g4]
          refine ⟨fun c jf h hc hF => ?_, fun j2 R h => by cases h⟩
          cases h
          exact r5 _ _ _ _ _ k20 g4 hF
        · rw [if_neg g4]
          refine ⟨fun c jf h => (by cases h), fun j2 R h hk => ?_⟩
          cases h
          exact r4 _ _ _ _ _ k20 (by omega) (hk ts (fun _ _ => rfl))
      · rw [if_neg k20]
        by_cases k40 : K j = 40
        · rw [if_pos k40]
          by_cases w5 : 5 ≤ wi
          · rw [if_pos w5]
            refine ⟨fun c jf h hc hF => ?_, fun j2 R h => by cases h⟩
            cases h
            exact r10 _ _ _ _ _ k40 (by omega) hF
          · rw [if_neg w5]
            obtain ⟨q1, q2⟩ := ihL 0 (by omega) (wi + 1) (j + 1) (14 :: W) (dp + 1) (fun i => if i = dp + 1 then false else ts i) O (by omega) (by omega) (Or.inl rfl) (fun _ => if_pos rfl)
            have go : LV OP ON 0 (j + 1) (14 :: W) (dp + 1) (fun i => if i = dp + 1 then false else ts i) O → ON j W dp ts O := fun h => r9 _ _ _ _ _ k40 (by omega) h
            refine ⟨fun c jf h hc hF => go ?_, fun j2 R h hk => go ?_⟩
            · rcases rb_inl h with h1 | ⟨j2, R, h1, h2⟩
              · exact q1 c jf h1 hc hF
              · by_cases k41 : K j2 = 41
                · rw [if_pos k41] at h2; cases h2
                · rw [if_neg k41] at h2
                  cases h2
                  refine q2 jf R h1 (fun p X ts' g1 g2 g3 g4 g5 => r13 _ _ _ _ _ (fun l hl2 => ?_) (g5 (by omega)) k41 (by omega) hF)
                  have := px_nj (K := K) (V := V) (G := G) (lo := lo) (hi := hi) f 0 (wi + 1) (j + 1) jf R (by omega) (fun q => absurd q (by omega)) h1 l
                  rw [if_neg (by omega)] at this
                  exact this (Nat.zero_le _) hl2
            · obtain ⟨j3, R3, h1, h2⟩ := rb_inr h
              by_cases k41 : K j3 = 41
              · rw [if_pos k41] at h2
                cases h2
                refine q2 j3 R h1 (fun p X ts' g1 g2 g3 g4 g5 => r12 j3 _ p W (dp + 1) ts' _ k41 rfl (fun a ha => ⟨(g2 a ha).1, (g2 a ha).2.1⟩) (by omega) ?_)
                have := hk ts' (fun i hi => (g3 i (by omega)).trans (if_neg (by omega)))
                rw [g1, ← List.append_assoc] at this
                exact this
              · rw [if_neg k41] at h2; cases h2
        · rw [if_neg k40]
          by_cases k19 : K j ≤ 19
          · rw [if_pos k19]
            cases hm : mk (K j) with
            | none =>
              refine ⟨fun c jf h hc hF => ?_, fun j2 R h => by cases h⟩
              cases h
              exact r7 _ _ _ _ _ k19 (fun v hv => by rw [hm] at hv; cases hv) hF
            | some v =>
              show (∀ c jf, (if lo ≤ v ∧ v ≤ hi then (Sum.inr (j + 1, [(2, v)]) : PR1) else .inl (3, j)) = .inl (c, jf) → _) ∧ (∀ j2 R, (if lo ≤ v ∧ v ≤ hi then (Sum.inr (j + 1, [(2, v)]) : PR1) else .inl (3, j)) = .inr (j2, R) → _)
              by_cases hv : lo ≤ v ∧ v ≤ hi
              · rw [if_pos hv]
                refine ⟨fun c jf h => (by cases h), fun j2 R h hk => ?_⟩
                cases h
                exact r6 _ _ _ _ _ v k19 hm hv.1 hv.2 (hk ts (fun _ _ => rfl))
              · rw [if_neg hv]
                refine ⟨fun c jf h hc hF => ?_, fun j2 R h => by cases h⟩
                cases h
                exact r7 _ _ _ _ _ k19 (fun v' hv' => by rw [hm] at hv'; cases hv'; exact hv) hF
          · rw [if_neg k19]
            refine ⟨fun c jf h hc hF => ?_, fun j2 R h => by cases h⟩
            cases h
            exact r8 _ _ _ _ _ (by omega) k40 hF
    · intro l hl wi j W dp ts O p hdp hwi hcx hp hts
      rw [px_T hl]
      cases hj : jn l (K j) with
      | none =>
        refine ⟨fun c jf h => (by cases h), fun j2 R h hk => ?_⟩
        cases h
        have := hk p [] ts (by rw [show enc [] = [] from rfl, List.append_nil]; rfl) hp (fun _ _ => rfl) (fun _ => rfl) (fun q => hts q)
        rw [List.append_nil] at this
        exact this
      | some t =>
        obtain ⟨-, t3, t11, tst⟩ := jn_ok hj
        obtain ⟨d1, d2⟩ := dp_pn hcx hp
        have hl2 : l ≠ 2 := by omega
        have etd : l ≤ 1 → tsn l dp ts dp = false := fun q => by
          unfold tsn
          rw [if_pos q]
          exact if_pos rfl
        have eti : ∀ i, i < dp → tsn l dp ts i = ts i := fun i hi => by
          unfold tsn
          by_cases q1 : l ≤ 1
          · rw [if_pos q1]
            exact if_neg (by omega)
          · rw [if_neg q1, if_neg hl2]
        have et3 : 3 ≤ l → tsn l dp ts dp = ts dp := fun q => by
          unfold tsn
          rw [if_neg (by omega), if_neg (by omega)]
        obtain ⟨q1, q2⟩ := behind l hl t t3 t11 tst wi (j + 1) W dp (tsn l dp ts) (O ++ p) hdp hwi hcx etd
        have go : OP (decide (l ≤ 1)) (j + 1) (t :: W) dp (tsn l dp ts) (O ++ p) → HD j (p ++ W) dp ts O := fun h => r11 l t j _ dp ts O hj (fun q => absurd q hl2) (by rw [ldsl l hl, d1, d2]; exact h)
        have hcxt : ∀ p', PN (sl l) p' → PN (sl l) (p' ++ [t]) := fun p' h => h.ap (PN_one t3 t11 (by rw [tst, ldsl l hl]; exact Nat.le_refl _))
        refine ⟨fun c jf h hc hF => go ?_, fun j2 R h hk => go ?_⟩
        · rcases rb_inl h with h1 | ⟨j2, R, h1, h2⟩
          · exact q1 c jf h1 hc hF
          · rcases rb_inl h2 with h3 | ⟨j3, R3, -, h4⟩
            · refine q2 j2 R h1 (fun p' X ts' g1 g2 g3 g4 g5 => ?_)
              have := (ihT l hl wi j2 W dp ts' (O ++ p ++ X) (p' ++ [t]) hdp hwi hcx (hcxt p' g2) (fun q => g5 q)).1 c jf h3 hc hF
              rw [List.append_assoc] at this
              exact this
            · cases h4
        · obtain ⟨j3, R3, h1, h2⟩ := rb_inr h
          obtain ⟨j4, R4, h3, h4⟩ := rb_inr h2
          cases h4
          refine q2 j3 R3 h1 (fun p' X ts' g1 g2 g3 g4 g5 => ?_)
          have := (ihT l hl wi j3 W dp ts' (O ++ p ++ X) (p' ++ [t]) hdp hwi hcx (hcxt p' g2) (fun q => g5 q)).2 j2 R4 h3 (fun p2 X2 ts'' k1 k2 k3 k4 k5 => ?_)
          · rw [List.append_assoc] at this
            exact this
          · have hh2 := hk p2 (p ++ X ++ X2) ts'' (by
              rw [enc_app, enc_op t3, g1]
              have k1' : p' ++ ([t] ++ enc R4) = X2 ++ p2 := by rw [← List.append_assoc]; exact k1
              have : p ++ (X ++ p' ++ t :: enc R4) = p ++ (X ++ (p' ++ ([t] ++ enc R4))) := by simp only [List.append_assoc, List.cons_append, List.nil_append]
              rw [this, k1']
              simp only [List.append_assoc]) k2 (fun i hi => ((k3 i hi).trans (g3 i hi)).trans (eti i hi)) (fun q => ((k4 q).trans (g4 q)).trans (et3 q)) (fun q => k5 q)
            simp only [List.append_assoc] at hh2 ⊢
            exact hh2
end T
