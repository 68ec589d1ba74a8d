/-! a text, line by line; the model's numbers -/
abbrev ST : Type := Sum (Nat × Nat) Nat
abbrev NR : Type := WT × (Nat → Nat) × (Nat → Nat) × MM
def NR.n (W : NR) : Nat := W.1.1
def NR.c (W : NR) : Nat → Nat := W.2.1
def NR.h (W : NR) : Nat → Nat := W.2.2.1
def NR.m (W : NR) : MM := W.2.2.2
def upN (f : Nat → Nat) (n v : Nat) : Nat → Nat := fun x => if x = n then v else f x
def NR.sock (W : NR) (k c o s h l : Nat) : NR := ((W.n + 1, upN W.1.pat W.n k, upN W.1.woo W.n o, upN W.1.siz W.n s, upN W.1.chm W.n l, W.1.al, W.1.li), upN W.c W.n c, upN W.h W.n h, fun x => if x = W.n then none else W.m x)
def NR.bnd (W : NR) (a e : Nat) : NR := (W.1, W.c, W.h, fun x => if x = e then some a else if x = a then some e else W.m x)
def NR.sal (W : NR) (R : RP) : NR := ((W.1.1, W.1.2.1, W.1.2.2.1, W.1.2.2.2.1, W.1.2.2.2.2.1, some R, W.1.li), W.2)
def NR.sli (W : NR) (R : RP) : NR := ((W.1.1, W.1.2.1, W.1.2.2.1, W.1.2.2.2.1, W.1.2.2.2.2.1, W.1.al, some R), W.2)
section T
variable (b : Nat → Nat) (n : Nat)
def numS (lo hi : Nat) : ST → ST
  | .inl e => .inl e
  | .inr j => if tK b n j ≠ 20 then .inl (1, j) else if 4 < tD b n j ∨ tV b n j < lo ∨ hi < tV b n j then .inl (2, j) else .inr (j + 1)
def ubS (N : Nat) (m : MM) (a : Option Nat) : ST → ST
  | .inl e => .inl e
  | .inr j => if tK b n j ≠ 20 then .inl (1, j) else if 4 < tD b n j then .inl (2, j) else if N ≤ tV b n j then .inl (3, j) else if a = some (tV b n j) ∨ m (tV b n j) ≠ none then .inl (4, j) else .inr (j + 1)
def ndS : ST → ST
  | .inl e => .inl e
  | .inr j => if tK b n j = 59 then .inr (j + 1) else .inl (1, j)
/-- the numbers of a sock -/
def skS (j : Nat) : ST := numS b n 0 20 (numS b n 0 9 (numS b n 1 30 (numS b n 0 3 (numS b n 0 9 (.inr (j + 1))))))
def skW (j : Nat) (W : NR) : NR := W.sock (tK b n j) (tV b n (j + 1)) (tV b n (j + 2)) (tV b n (j + 3)) (tV b n (j + 4)) (tV b n (j + 5))
def bdS (j : Nat) (W : NR) : ST := ubS b n W.n W.m (some (tV b n (j + 1))) (ubS b n W.n W.m none (.inr (j + 1)))
def bdW (j : Nat) (W : NR) : NR := W.bnd (tV b n (j + 1)) (tV b n (j + 2))
def lnS (W : NR) (j : Nat) : ST × NR :=
  if tK b n j ≤ 3 then (if W.n = 10 then (.inl (2, j), W) else (ndS b n (skS b n j), skW b n j W))
  else if tK b n j = 4 then (ndS b n (bdS b n j W), bdW b n j W)
  else if tK b n j = 5 then (if W.1.al ≠ none then (.inl (5, j), W) else match EX b n 0 6 (j + 1) with
    | .inl e => (.inl e, W)
    | .inr q => (ndS b n (.inr q.1), W.sal q.2))
  else if tK b n j = 6 then (if W.1.li ≠ none then (.inl (5, j), W) else match EX b n 6 10 (j + 1) with
    | .inl e => (.inl e, W)
    | .inr q => (ndS b n (.inr q.1), W.sli q.2))
  else (.inl (1, j), W)
def lnsS : Nat → ST × NR → ST × NR
  | 0, s => s
  | f + 1, s => match s.1 with
    | .inl _ => s
    | .inr j => if tK b n j = 21 then s else lnsS f (lnS b n s.2 j)
def NR0 : NR := ((0, fun _ => 0, fun _ => 0, fun _ => 0, fun _ => 0, none, none), fun _ => 0, fun _ => 0, fun _ => none)
def rdS : ST × NR := lnsS b n 701 (.inr 0, NR0)
end T
section U
variable {b : Nat → Nat} {n : Nat}
theorem numS_inr {lo hi j j' : Nat} (h : numS b n lo hi (.inr j) = .inr j') : j' = j + 1 ∧ tK b n j = 20 ∧ tD b n j ≤ 4 ∧ lo ≤ tV b n j ∧ tV b n j ≤ hi := by
  unfold numS at h
  by_cases h1 : tK b n j ≠ 20
  · simp only [if_pos h1] at h
    cases h
  · simp only [if_neg h1] at h
    by_cases h2 : 4 < tD b n j ∨ tV b n j < lo ∨ hi < tV b n j
    · rw [if_pos h2] at h
      cases h
    · rw [if_neg h2] at h
      cases h
      omega
theorem ubS_inr {N j j' : Nat} {m : MM} {a : Option Nat} (h : ubS b n N m a (.inr j) = .inr j') : j' = j + 1 ∧ tK b n j = 20 ∧ tD b n j ≤ 4 ∧ tV b n j < N ∧ a ≠ some (tV b n j) ∧ m (tV b n j) = none := by
  unfold ubS at h
  by_cases h1 : tK b n j ≠ 20
  · simp only [if_pos h1] at h
    cases h
  · simp only [if_neg h1] at h
    by_cases h2 : 4 < tD b n j
    · rw [if_pos h2] at h
      cases h
    · rw [if_neg h2] at h
      by_cases h3 : N ≤ tV b n j
      · rw [if_pos h3] at h
        cases h
      · rw [if_neg h3] at h
        by_cases h4 : a = some (tV b n j) ∨ m (tV b n j) ≠ none
        · rw [if_pos h4] at h
          cases h
        · rw [if_neg h4] at h
          cases h
          refine ⟨rfl, by omega, by omega, by omega, fun q => h4 (Or.inl q), ?_⟩
          cases hm : m (tV b n j) with
          | none => rfl
          | some q => exact absurd (Or.inr (by rw [hm]; exact fun z => by cases z)) h4
theorem ndS_inr {st : ST} {j' : Nat} (h : ndS b n st = .inr j') : ∃ j, st = .inr j ∧ j' = j + 1 ∧ tK b n j = 59 := by
  cases st with
  | inl e => cases h
  | inr j =>
    unfold ndS at h
    by_cases h1 : tK b n j = 59
    · simp only [if_pos h1] at h
      cases h
      exact ⟨j, rfl, rfl, h1⟩
    · simp only [if_neg h1] at h
      cases h
theorem numS_st {lo hi j' : Nat} {st : ST} (h : numS b n lo hi st = .inr j') : ∃ j, st = .inr j ∧ j' = j + 1 ∧ tK b n j = 20 ∧ tD b n j ≤ 4 ∧ lo ≤ tV b n j ∧ tV b n j ≤ hi := by
  cases st with
  | inl e => cases h
  | inr j => exact ⟨j, rfl, numS_inr h⟩
theorem ubS_st {N j' : Nat} {m : MM} {a : Option Nat} {st : ST} (h : ubS b n N m a st = .inr j') : ∃ j, st = .inr j ∧ j' = j + 1 ∧ tK b n j = 20 ∧ tD b n j ≤ 4 ∧ tV b n j < N ∧ a ≠ some (tV b n j) ∧ m (tV b n j) = none := by
  cases st with
  | inl e => cases h
  | inr j => exact ⟨j, rfl, ubS_inr h⟩
/-- a sock's numbers, all good -/
theorem skS_inr {j j' : Nat} (h : skS b n j = .inr j') : j' = j + 6 ∧ (∀ i, 1 ≤ i → i < 6 → tK b n (j + i) = 20) ∧ tV b n (j + 1) ≤ 9 ∧ tV b n (j + 2) ≤ 3 ∧ (1 ≤ tV b n (j + 3) ∧ tV b n (j + 3) ≤ 30) ∧ tV b n (j + 4) ≤ 9 ∧ tV b n (j + 5) ≤ 20 := by
  obtain ⟨j5, h5, rfl, a5, -, -, c5⟩ := numS_st h
  obtain ⟨j4, h4, rfl, a4, -, -, c4⟩ := numS_st h5
  obtain ⟨j3, h3, rfl, a3, -, b3, c3⟩ := numS_st h4
  obtain ⟨j2, h2, rfl, a2, -, -, c2⟩ := numS_st h3
  obtain ⟨j1, h1, rfl, a1, -, -, c1⟩ := numS_st h2
  cases h1
  refine ⟨rfl, fun i i1 i2 => ?_, c1, c2, ⟨b3, c3⟩, c4, c5⟩
  rcases show i = 1 ∨ i = 2 ∨ i = 3 ∨ i = 4 ∨ i = 5 by omega with rfl | rfl | rfl | rfl | rfl <;> assumption
theorem bdS_inr {j j' : Nat} {W : NR} (h : bdS b n j W = .inr j') : j' = j + 3 ∧ (∀ i, 1 ≤ i → i < 3 → tK b n (j + i) = 20) ∧ tV b n (j + 1) < W.n ∧ tV b n (j + 2) < W.n ∧ tV b n (j + 1) ≠ tV b n (j + 2) ∧ W.m (tV b n (j + 1)) = none ∧ W.m (tV b n (j + 2)) = none := by
  obtain ⟨j2, h2, rfl, a2, -, b2, c2, e2⟩ := ubS_st h
  obtain ⟨j1, h1, rfl, a1, -, b1, c1, e1⟩ := ubS_st h2
  cases h1
  refine ⟨rfl, fun i i1 i2 => ?_, b1, b2, fun q => c2 (congrArg some q), e1, e2⟩
  rcases show i = 1 ∨ i = 2 by omega with rfl | rfl <;> assumption
/-- what a text's numbers keep -/
def NR.ok (W : NR) : Prop := W.1.ok ∧ (∀ p, p < W.n → W.c p < 10 ∧ W.h p < 10) ∧ gm W.n W.m
/-- a line that is read whole -/
theorem lnS_ok {W : NR} {j j' : Nat} (hn : n ≤ 700) (hjn : j ≤ n) (hW : W.ok) (h : (lnS b n W j).1 = .inr j') : j < j' ∧ j' ≤ n ∧ (∀ i, j ≤ i → i < j' → tK b n i ≠ 21) ∧ (lnS b n W j).2.ok := by
  have fin : ∀ i, (∀ i, j ≤ i → i < j' → tK b n i ≠ 21) → j < j' → i = j' → j' ≤ n := fun i h1 h2 _ => by
    apply Nat.not_lt.mp
    intro q
    exact h1 n hjn q tK_n
  have bel : j < j' → (∀ i, j ≤ i → i < j' → tK b n i ≠ 21) → (lnS b n W j).2.ok → j < j' ∧ j' ≤ n ∧ (∀ i, j ≤ i → i < j' → tK b n i ≠ 21) ∧ (lnS b n W j).2.ok := fun h1 h2 h3 => ⟨h1, fin j' h2 h1 rfl, h2, h3⟩
  obtain ⟨⟨w1, w2, w3, w4⟩, wc, wg⟩ := hW
  unfold lnS at h bel ⊢
  by_cases k3 : tK b n j ≤ 3
  · rw [if_pos k3] at h bel ⊢
    by_cases n10 : W.n = 10
    · rw [if_pos n10] at h
      cases h
    · rw [if_neg n10] at h bel ⊢
      obtain ⟨j6, g1, rfl, g3⟩ := ndS_inr h
      obtain ⟨rfl, q1, q2, q3, q4, q5, q6⟩ := skS_inr g1
      have wn : W.n + 1 ≤ 10 := by
        have : W.n ≤ 10 := w1
        omega
      refine bel (by omega) (fun i h1 h2 => ?_) ⟨⟨wn, fun p hp => ?_, w3, w4⟩, fun p hp => ?_, fun p hp q e => ?_⟩
      · by_cases e1 : i = j
        · rw [e1]; omega
        · by_cases e2 : i = j + 6
          · rw [e2]; omega
          · have := q1 (i - j) (by omega) (by omega)
            rw [show j + (i - j) = i by omega] at this
            omega
      · have hp' : p < W.n + 1 := hp
        show upN W.1.pat W.n _ p < 4 ∧ upN W.1.woo W.n _ p < 4 ∧ 1 ≤ upN W.1.siz W.n _ p ∧ upN W.1.siz W.n _ p ≤ 30 ∧ upN W.1.chm W.n _ p ≤ 20
        unfold upN
        by_cases e : p = W.n
        · simp only [if_pos e]
          omega
        · simp only [if_neg e]
          exact w2 p (show p < W.n by omega)
      · have hp' : p < W.n + 1 := hp
        show upN W.c W.n _ p < 10 ∧ upN W.h W.n _ p < 10
        unfold upN
        by_cases e : p = W.n
        · simp only [if_pos e]
          omega
        · simp only [if_neg e]
          exact wc p (show p < W.n by omega)
      · have hp' : p < W.n + 1 := hp
        have e' : (if p = W.n then none else W.m p) = some q := e
        show q < W.n + 1 ∧ q ≠ p ∧ (if q = W.n then none else W.m q) = some p
        by_cases c : p = W.n
        · rw [if_pos c] at e'
          cases e'
        · rw [if_neg c] at e'
          obtain ⟨z1, z2, z3⟩ := wg p (by omega) q e'
          refine ⟨by omega, z2, ?_⟩
          rw [if_neg (by omega)]
          exact z3
  · rw [if_neg k3] at h bel ⊢
    by_cases k4 : tK b n j = 4
    · rw [if_pos k4] at h bel ⊢
      obtain ⟨j6, g1, rfl, g3⟩ := ndS_inr h
      obtain ⟨rfl, q1, q2, q3, q4, q5, q6⟩ := bdS_inr g1
      refine bel (by omega) (fun i h1 h2 => ?_) ⟨⟨w1, w2, w3, w4⟩, wc, ?_⟩
      · by_cases e1 : i = j
        · rw [e1]; omega
        · by_cases e2 : i = j + 3
          · rw [e2]; omega
          · have := q1 (i - j) (by omega) (by omega)
            rw [show j + (i - j) = i by omega] at this
            omega
      · intro p hp q e
        have hp' : p < W.n := hp
        unfold bdW at e ⊢
        generalize tV b n (j + 1) = u at *
        generalize tV b n (j + 2) = v at *
        have e' : (if p = v then some u else if p = u then some v else W.m p) = some q := e
        show q < W.n ∧ q ≠ p ∧ (if q = v then some u else if q = u then some v else W.m q) = some p
        by_cases c1 : p = v
        · rw [if_pos c1] at e'
          cases e'
          rw [if_neg q4, if_pos rfl, c1]
          exact ⟨q2, q4, rfl⟩
        · rw [if_neg c1] at e'
          by_cases c2 : p = u
          · rw [if_pos c2] at e'
            cases e'
            rw [if_pos rfl, c2]
            exact ⟨q3, fun z => q4 z.symm, rfl⟩
          · rw [if_neg c2] at e'
            obtain ⟨z1, z2, z3⟩ := wg p hp' q e'
            refine ⟨z1, z2, ?_⟩
            have n1 : q ≠ v := fun z => by rw [z, q6] at z3; cases z3
            have n2 : q ≠ u := fun z => by rw [z, q5] at z3; cases z3
            rw [if_neg n1, if_neg n2]
            exact z3
    · rw [if_neg k4] at h bel ⊢
      have rule : ∀ (lo hi : Nat) (R : RP) (j2 : Nat), tK b n j ≤ 6 → EX b n lo hi (j + 1) = .inr (j2, R) → ndS b n (.inr j2) = .inr j' → j < j' ∧ (∀ i, j ≤ i → i < j' → tK b n i ≠ 21) ∧ rpok lo hi 36 R 0 ∧ R.length ≤ 700 := by
        intro lo hi R j2 k6 e1 e2
        obtain ⟨j6, g1, rfl, g3⟩ := ndS_inr e2
        cases g1
        obtain ⟨x1, x2, x3, x4⟩ := EX_ok e1
        have all : ∀ i, j ≤ i → i < j2 + 1 → tK b n i ≠ 21 := fun i h1 h2 => by
          by_cases c1 : i = j
          · rw [c1]; omega
          · by_cases c2 : i = j2
            · rw [c2]; omega
            · exact x3 i (by omega) (by omega)
        have := fin (j2 + 1) all (by omega) rfl
        exact ⟨by omega, all, x4, by omega⟩
      by_cases k5 : tK b n j = 5
      · rw [if_pos k5] at h bel ⊢
        by_cases ha : W.1.al ≠ none
        · rw [if_pos ha] at h
          cases h
        · rw [if_neg ha] at h bel ⊢
          cases e : EX b n 0 6 (j + 1) with
          | inl q => simp only [e] at h; cases h
          | inr q =>
            simp only [e] at h bel ⊢
            obtain ⟨z1, z2, z3, z4⟩ := rule 0 6 q.2 q.1 (by omega) e h
            exact bel z1 z2 ⟨⟨w1, w2, fun R hR => (by cases hR; exact ⟨z3, z4⟩), w4⟩, wc, wg⟩
      · rw [if_neg k5] at h bel ⊢
        by_cases k6 : tK b n j = 6
        · rw [if_pos k6] at h bel ⊢
          by_cases ha : W.1.li ≠ none
          · rw [if_pos ha] at h
            cases h
          · rw [if_neg ha] at h bel ⊢
            cases e : EX b n 6 10 (j + 1) with
            | inl q => simp only [e] at h; cases h
            | inr q =>
              simp only [e] at h bel ⊢
              obtain ⟨z1, z2, z3, z4⟩ := rule 6 10 q.2 q.1 (by omega) e h
              exact bel z1 z2 ⟨⟨w1, w2, w3, fun R hR => (by cases hR; exact ⟨z3, z4⟩)⟩, wc, wg⟩
        · rw [if_neg k6] at h
          cases h
theorem NR0_ok : NR0.ok := ⟨⟨by decide, fun p hp => absurd hp (Nat.not_lt_zero _), fun R hR => (by cases hR), fun R hR => (by cases hR)⟩, fun p hp => absurd hp (Nat.not_lt_zero _), fun p hp => absurd hp (Nat.not_lt_zero _)⟩
end U
/-- the model's reader: good at a token, or a FAULT found -/
def SM (b : Nat → Nat) (n : Nat) (st : ST) (I : mj_I) (L : mj_L) : Prop := match st with
  | .inl e => 0 < e.1 ∧ e.1 < 10 ∧ I 73 11 = nI e.1 ∧ I 73 12 = nI (tB b n e.2)
  | .inr j => GD I ∧ TM b n j I L
def tkG : List (Nat × Nat) := (73, 11) :: (73, 12) :: tkF
section M
variable {I : mj_I} {L : mj_L} {P : mj_P} {Q : mj_Q} {d n r t j : Nat} {b : Nat → Nat} {O : List Nat} {lo hi : Nat} {st : ST}
theorem SM.fr {I' : mj_I} {L' : mj_L} (h : SM b n st I L) (e : ∀ q, q = 11 ∨ q = 12 ∨ q = 15 ∨ q = 16 ∨ q = 17 ∨ q = 18 ∨ q = 19 ∨ q = 20 → I' 73 q = I 73 q) (eL : L' 73 21 = L 73 21) : SM b n st I' L' := by
  cases st with
  | inl q =>
    obtain ⟨h1, h2, h3, h4⟩ := h
    exact ⟨h1, h2, (e 11 (by omega)).trans h3, (e 12 (by omega)).trans h4⟩
  | inr j =>
    obtain ⟨h1, h2⟩ := h
    exact ⟨⟨(e 11 (by omega)).trans h1.1, (e 12 (by omega)).trans h1.2⟩, h2.fr (fun q hq => e q (by omega)) eL⟩
/-- a FAULT at the token that stands -/
theorem SM_flt {c : Nat} (c0 : 0 < c) (c9 : c < 10) : SM b n (.inl (c, j)) (mj_upI (mj_upI I 73 11 (nI c)) 73 12 (nI (tB b n j))) L := ⟨c0, c9, rfl, rfl⟩
theorem s_178g {c : Int32} (k : ∀ z, Q (.inl (some (.int z))) (107, I, L, P)) : mj_ev (d + 1) 178 [.ref 73, .int c] (107, I, L, P) Q := by
  refine ⟨rfl, ?_⟩
  show mj_run (mj_ev d) k178 Q (k178 0) [some (.ref 73), some (.int c)] [] (107, I, L, P) 0 0
  by_cases h1 : I 73 16 = nI 3
  · by_cases h2 : I 73 20 = c
    · refine q_5 rfl ?_
      refine q_31 rfl (by decide) ?_
      refine q_0 ?_
      refine q_neI (fun z => absurd h1 z) (fun _ => ?_)
      refine q_5 rfl ?_
      refine q_31 rfl (by decide) ?_
      refine q_3 rfl ?_
      refine q_neI (fun z => absurd h2 z) (fun _ => ?_)
      refine q_0 ?_
      refine q_23 ?_
      refine q_27 (by first | exact Or.inl rfl | exact Or.inr rfl | assumption | (split <;> first | exact Or.inl rfl | exact Or.inr rfl)) ?_
      exact k _
    · refine q_5 rfl ?_
      refine q_31 rfl (by decide) ?_
      refine q_0 ?_
      refine q_neI (fun z => absurd h1 z) (fun _ => ?_)
      refine q_5 rfl ?_
      refine q_31 rfl (by decide) ?_
      refine q_3 rfl ?_
      refine q_neI (fun _ => ?_) (fun z => absurd h2 z)
      refine q_0 ?_
      refine q_27 (by first | exact Or.inl rfl | exact Or.inr rfl | assumption | (split <;> first | exact Or.inl rfl | exact Or.inr rfl)) ?_
      exact k _
  · refine q_5 rfl ?_
    refine q_31 rfl (by decide) ?_
    refine q_0 ?_
    refine q_neI (fun _ => ?_) (fun z => absurd h1 z)
    refine q_0 ?_
    refine q_27 (by first | exact Or.inl rfl | exact Or.inr rfl | assumption | (split <;> first | exact Or.inl rfl | exact Or.inr rfl)) ?_
    exact k _
theorem s_179 (hP : PS t P) (hB : MB b n I) (hS : SM b n st I L) {z : Int32} (hz : ∀ j, st = .inr j → z = nI (if tK b n j = 59 then 1 else 0)) (k : ∀ I' L', Eqf (frm [] tkG) I I' → EqL (frm [] [(73, 21)]) L L' → SM b n (ndS b n st) I' L' → Q (.inl none) (107, I', L', P)) : mj_ev (d + 3) 179 [.ref 73, .int z] (107, I, L, P) Q := by
  refine ⟨rfl, ?_⟩
  show mj_run (mj_ev (d + 2)) k179 Q (k179 0) [some (.ref 73), some (.int z)] [] (107, I, L, P) 0 0
  cases st with
  | inl e =>
    have hS' := hS
    obtain ⟨g1, g2, g3, g4⟩ := hS
    refine q_5 rfl ?_
    refine q_47 (mj_ev_mono _) [] rfl rfl rfl (by decide) rfl rfl rfl ?_
    refine s_177B g3 g1 g2 ?_
    first | refine q_neN0 (by omega) (fun hh => absurd hh (by omega)) (fun hh => ?_) | refine q_neI0 (fun hh => absurd hh (by omega)) (fun hh => ?_)
    refine q_25 ?_
    exact k I L Eqf.rf (fun _ _ _ => rfl) hS'
  | inr j =>
    obtain ⟨g1, g2⟩ := hS
    rw [hz j rfl]
    by_cases k59 : tK b n j = 59
    · rw [if_pos k59]
      have e : ndS b n (.inr j) = .inr (j + 1) := if_pos k59
      rw [e] at k
      refine q_5 rfl ?_
      refine q_47 (mj_ev_mono _) [] rfl rfl rfl (by decide) rfl rfl rfl ?_
      refine s_177G g1.1 ?_
      first | refine q_neN0 (by omega) (fun hh => ?_) (fun hh => absurd hh (by omega)) | refine q_neI0 (fun hh => ?_) (fun hh => absurd (by omega) hh)
      refine q_3 rfl ?_
      first | refine q_eqN0 (by omega) (fun hh => absurd hh (by omega)) (fun hh => ?_) | refine q_eqI0 (fun hh => absurd hh (by omega)) (fun hh => ?_)
      refine q_5 rfl ?_
      refine q_47 (mj_ev_mono _) [] rfl rfl rfl (by decide) rfl rfl rfl ?_
      refine s_172 (j := j + 1) hP hB g2.1 (fun I2 L2 e2 eL hT => ?_)
      refine q_23 ?_
      refine q_25 ?_
      exact k I2 L2 (e2.to rfl rfl) eL ⟨g1.tk e2, hT⟩
    · rw [if_neg k59]
      have e : ndS b n (.inr j) = .inl (1, j) := if_neg k59
      rw [e] at k
      refine q_5 rfl ?_
      refine q_47 (mj_ev_mono _) [] rfl rfl rfl (by decide) rfl rfl rfl ?_
      refine s_177G g1.1 ?_
      first | refine q_neN0 (by omega) (fun hh => ?_) (fun hh => absurd hh (by omega)) | refine q_neI0 (fun hh => ?_) (fun hh => absurd (by omega) hh)
      refine q_3 rfl ?_
      first | refine q_eqN0 (by omega) (fun hh => ?_) (fun hh => absurd hh (by omega)) | refine q_eqI0 (fun hh => ?_) (fun hh => absurd (by omega) hh)
      refine q_5 rfl ?_
      refine q_0 ?_
      refine q_47 (mj_ev_mono _) [_] rfl rfl rfl (by decide) rfl rfl rfl ?_
      refine s_176G g1.1 g2.2.2.1 ?_
      refine q_25 ?_
      exact k _ L ((Eqf.rf.up rfl).up rfl) (fun _ _ _ => rfl) (SM_flt (by omega) (by omega))
set_option maxHeartbeats 1000000 in
theorem s_180 (hP : PS t P) (hB : MB b n I) (hS : SM b n st I L) (lo9 : lo < 100) (hi9 : hi < 100) (k : ∀ v I' L', Eqf (frm [] tkG) I I' → EqL (frm [] [(73, 21)]) L L' → SM b n (numS b n lo hi st) I' L' → (∀ j j', st = .inr j → numS b n lo hi st = .inr j' → v = nI (tV b n j)) → Q (.inl (some (.int v))) (107, I', L', P)) : mj_ev (d + 3) 180 [.ref 73, .int (nI lo), .int (nI hi)] (107, I, L, P) Q := by
  refine ⟨rfl, ?_⟩
  show mj_run (mj_ev (d + 2)) k180 Q (k180 0) [some (.ref 73), some (.int (nI lo)), some (.int (nI hi)), none] [] (107, I, L, P) 0 0
  cases st with
  | inl e =>
    have hS' := hS
    obtain ⟨g1, g2, g3, g4⟩ := hS
    refine q_5 rfl ?_
    refine q_47 (mj_ev_mono _) [] rfl rfl rfl (by decide) rfl rfl rfl ?_
    refine s_177B g3 g1 g2 ?_
    first | refine q_neN0 (by omega) (fun hh => absurd hh (by omega)) (fun hh => ?_) | refine q_neI0 (fun hh => absurd hh (by omega)) (fun hh => ?_)
    refine q_0 ?_
    refine q_26 ?_
    exact k _ I L Eqf.rf (fun _ _ _ => rfl) hS' (fun j j' e1 => by cases e1)
  | inr j =>
    obtain ⟨g1, g2⟩ := hS
    have g2' := g2
    obtain ⟨h15, h16, h17, h18, h19, h20, h21⟩ := g2
    -- a FAULT c
    have bad : ∀ c, 0 < c → c < 10 → numS b n lo hi (.inr j) = .inl (c, j) → mj_run (mj_ev (d + 2)) k180 Q (k180 54) [some (.ref 73), some (.int (nI lo)), some (.int (nI hi)), none] [] (107, mj_upI (mj_upI I 73 11 (nI c)) 73 12 (nI (tB b n j)), L, P) 0 0 := by
      intro c c0 c9 e
      have z11 : mj_upI (mj_upI I 73 11 (nI c)) 73 12 (nI (tB b n j)) 73 11 = nI c := rfl
      rw [e] at k
      refine q_5 rfl ?_
      refine q_31 rfl (by decide) ?_
      refine q_6 rfl rfl rfl ?_
      refine q_5 rfl ?_
      refine q_47 (mj_ev_mono _) [] rfl rfl rfl (by decide) rfl rfl rfl ?_
      refine s_177B z11 c0 c9 ?_
      first | refine q_eqN0 (by omega) (fun hh => ?_) (fun hh => absurd hh (by omega)) | refine q_eqI0 (fun hh => ?_) (fun hh => absurd (by omega) hh)
      refine q_3 rfl ?_
      refine q_26 ?_
      exact k _ _ L ((Eqf.rf.up rfl).up rfl) (fun _ _ _ => rfl) (SM_flt c0 c9) (fun j j' _ e2 => by cases e2)
    have b2 : mj_run (mj_ev (d + 2)) k180 Q (k180 54) [some (.ref 73), some (.int (nI lo)), some (.int (nI hi)), none] [] (107, mj_upI (mj_upI I 73 11 (nI 2)) 73 12 (nI (tB b n j)), L, P) 0 0 → mj_run (mj_ev (d + 2)) k180 Q (k180 49) [some (.ref 73), some (.int (nI lo)), some (.int (nI hi)), none] [] (107, I, L, P) 0 0 := by
      intro hk
      refine q_5 rfl ?_
      refine q_0 ?_
      refine q_47 (mj_ev_mono _) [_] rfl rfl rfl (by decide) rfl rfl rfl ?_
      refine s_176G g1.1 h17 ?_
      exact hk
    by_cases k20 : tK b n j = 20
    · have g19 := h19 k20
      have s2 : srt (tK b n j) = 2 := srt_2.mpr k20
      rw [s2] at h16
      have v4 := (t_num k20).2
      have dn : tD b n j ≤ 700 := by
        have := t_adv (b := b) (n := n) (j := j) (by omega)
        have := hB.2.1
        unfold tD
        omega
      by_cases c1 : 4 < tD b n j
      · have e : numS b n lo hi (.inr j) = .inl (2, j) := (if_neg (by omega)).trans (if_pos (Or.inl c1))
        refine q_5 rfl ?_
        refine q_47 (mj_ev_mono _) [] rfl rfl rfl (by decide) rfl rfl rfl ?_
        refine s_177G g1.1 ?_
        first | refine q_neN0 (by omega) (fun hh => ?_) (fun hh => absurd hh (by omega)) | refine q_neI0 (fun hh => ?_) (fun hh => absurd (by omega) hh)
        refine q_5 rfl ?_
        first | refine q_31E rfl (by decide) h16 ?_ | refine q_31 rfl (by decide) ?_
        refine q_0 ?_
        refine q_eqN (by omega) (by omega) (fun hh => ?_) (fun hh => absurd hh (by omega))
        refine q_5 rfl ?_
        first | refine q_31E rfl (by decide) h18 ?_ | refine q_31 rfl (by decide) ?_
        refine q_0 ?_
        refine q_gtN (by omega) (by omega) (fun hh => ?_) (fun hh => absurd hh (by omega))
        exact b2 (bad 2 (by omega) (by omega) e)
      · by_cases c2 : tV b n j < lo
        · have e : numS b n lo hi (.inr j) = .inl (2, j) := (if_neg (by omega)).trans (if_pos (Or.inr (Or.inl c2)))
          refine q_5 rfl ?_
          refine q_47 (mj_ev_mono _) [] rfl rfl rfl (by decide) rfl rfl rfl ?_
          refine s_177G g1.1 ?_
          first | refine q_neN0 (by omega) (fun hh => ?_) (fun hh => absurd hh (by omega)) | refine q_neI0 (fun hh => ?_) (fun hh => absurd (by omega) hh)
          refine q_5 rfl ?_
          first | refine q_31E rfl (by decide) h16 ?_ | refine q_31 rfl (by decide) ?_
          refine q_0 ?_
          refine q_eqN (by omega) (by omega) (fun hh => ?_) (fun hh => absurd hh (by omega))
          refine q_5 rfl ?_
          first | refine q_31E rfl (by decide) h18 ?_ | refine q_31 rfl (by decide) ?_
          refine q_0 ?_
          refine q_gtN (by omega) (by omega) (fun hh => absurd hh (by omega)) (fun hh => ?_)
          refine q_5 rfl ?_
          first | refine q_31E rfl (by decide) g19 ?_ | refine q_31 rfl (by decide) ?_
          refine q_3 rfl ?_
          refine q_ltN (by omega) (by omega) (fun hh => ?_) (fun hh => absurd hh (by omega))
          exact b2 (bad 2 (by omega) (by omega) e)
        · by_cases c3 : hi < tV b n j
          · have e : numS b n lo hi (.inr j) = .inl (2, j) := (if_neg (by omega)).trans (if_pos (Or.inr (Or.inr c3)))
            refine q_5 rfl ?_
            refine q_47 (mj_ev_mono _) [] rfl rfl rfl (by decide) rfl rfl rfl ?_
            refine s_177G g1.1 ?_
            first | refine q_neN0 (by omega) (fun hh => ?_) (fun hh => absurd hh (by omega)) | refine q_neI0 (fun hh => ?_) (fun hh => absurd (by omega) hh)
            refine q_5 rfl ?_
            first | refine q_31E rfl (by decide) h16 ?_ | refine q_31 rfl (by decide) ?_
            refine q_0 ?_
            refine q_eqN (by omega) (by omega) (fun hh => ?_) (fun hh => absurd hh (by omega))
            refine q_5 rfl ?_
            first | refine q_31E rfl (by decide) h18 ?_ | refine q_31 rfl (by decide) ?_
            refine q_0 ?_
            refine q_gtN (by omega) (by omega) (fun hh => absurd hh (by omega)) (fun hh => ?_)
            refine q_5 rfl ?_
            first | refine q_31E rfl (by decide) g19 ?_ | refine q_31 rfl (by decide) ?_
            refine q_3 rfl ?_
            refine q_ltN (by omega) (by omega) (fun hh => absurd hh (by omega)) (fun hh => ?_)
            refine q_5 rfl ?_
            first | refine q_31E rfl (by decide) g19 ?_ | refine q_31 rfl (by decide) ?_
            refine q_3 rfl ?_
            refine q_leN (by omega) (by omega) (fun hh => absurd hh (by omega)) (fun hh => ?_)
            exact b2 (bad 2 (by omega) (by omega) e)
          · have e : numS b n lo hi (.inr j) = .inr (j + 1) := (if_neg (by omega)).trans (if_neg (by omega))
            refine q_5 rfl ?_
            refine q_47 (mj_ev_mono _) [] rfl rfl rfl (by decide) rfl rfl rfl ?_
            refine s_177G g1.1 ?_
            first | refine q_neN0 (by omega) (fun hh => ?_) (fun hh => absurd hh (by omega)) | refine q_neI0 (fun hh => ?_) (fun hh => absurd (by omega) hh)
            refine q_5 rfl ?_
            first | refine q_31E rfl (by decide) h16 ?_ | refine q_31 rfl (by decide) ?_
            refine q_0 ?_
            refine q_eqN (by omega) (by omega) (fun hh => ?_) (fun hh => absurd hh (by omega))
            refine q_5 rfl ?_
            first | refine q_31E rfl (by decide) h18 ?_ | refine q_31 rfl (by decide) ?_
            refine q_0 ?_
            refine q_gtN (by omega) (by omega) (fun hh => absurd hh (by omega)) (fun hh => ?_)
            refine q_5 rfl ?_
            first | refine q_31E rfl (by decide) g19 ?_ | refine q_31 rfl (by decide) ?_
            refine q_3 rfl ?_
            refine q_ltN (by omega) (by omega) (fun hh => absurd hh (by omega)) (fun hh => ?_)
            refine q_5 rfl ?_
            first | refine q_31E rfl (by decide) g19 ?_ | refine q_31 rfl (by decide) ?_
            refine q_3 rfl ?_
            refine q_leN (by omega) (by omega) (fun hh => ?_) (fun hh => absurd hh (by omega))
            refine q_5 rfl ?_
            first | refine q_31E rfl (by decide) g19 ?_ | refine q_31 rfl (by decide) ?_
            refine q_6 rfl rfl rfl ?_
            refine q_5 rfl ?_
            refine q_47 (mj_ev_mono _) [] rfl rfl rfl (by decide) rfl rfl rfl ?_
            refine s_177G g1.1 ?_
            first | refine q_eqN0 (by omega) (fun hh => absurd hh (by omega)) (fun hh => ?_) | refine q_eqI0 (fun hh => absurd hh (by omega)) (fun hh => ?_)
            refine q_5 rfl ?_
            refine q_47 (mj_ev_mono _) [] rfl rfl rfl (by decide) rfl rfl rfl ?_
            refine s_172 (j := j + 1) hP hB g2'.1 (fun I2 L2 e2 eL hT => ?_)
            refine q_3 rfl ?_
            refine q_26 ?_
            rw [e] at k
            exact k _ I2 L2 (e2.to rfl rfl) eL ⟨g1.tk e2, hT⟩ (fun j2 j' e1 _ => by cases e1; rfl)
    · have e : numS b n lo hi (.inr j) = .inl (1, j) := if_pos k20
      have s2 : srt (tK b n j) ≠ 2 := fun z => k20 (srt_2.mp z)
      have s4 := srt_le (tK b n j)
      refine q_5 rfl ?_
      refine q_47 (mj_ev_mono _) [] rfl rfl rfl (by decide) rfl rfl rfl ?_
      refine s_177G g1.1 ?_
      first | refine q_neN0 (by omega) (fun hh => ?_) (fun hh => absurd hh (by omega)) | refine q_neI0 (fun hh => ?_) (fun hh => absurd (by omega) hh)
      refine q_5 rfl ?_
      first | refine q_31E rfl (by decide) h16 ?_ | refine q_31 rfl (by decide) ?_
      refine q_0 ?_
      refine q_eqN (by omega) (by omega) (fun hh => absurd hh (by omega)) (fun hh => ?_)
      refine q_5 rfl ?_
      refine q_0 ?_
      refine q_47 (mj_ev_mono _) [_] rfl rfl rfl (by decide) rfl rfl rfl ?_
      refine s_176G g1.1 h17 ?_
      refine q_23 ?_
      exact bad 1 (by omega) (by omega) e
end M
