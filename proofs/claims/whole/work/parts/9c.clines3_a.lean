/-! the class reads a rule (the draft) -/
def ruS (b : Nat → Nat) (n : Nat) (W : NR) (j : Nat) : ST × NR :=
  if tK b n j = 5 then (if W.1.al ≠ none then (.inl (5, j), W) else match EX b n 0 6 (j + 1) with
    | .inl e => (.inl e, W)
    | .inr q => (.inr q.1, W.sal q.2))
  else (if W.1.li ≠ none then (.inl (5, j), W) else match EX b n 6 10 (j + 1) with
    | .inl e => (.inl e, W)
    | .inr q => (.inr q.1, W.sli q.2))
theorem mskA : ∀ k, k ≤ 19 → (Nat.testBit 64513 k = true ↔ ∃ v, mk k = some v ∧ 0 ≤ v ∧ v ≤ 6) := by
  have h : ∀ k, k < 20 → (Nat.testBit 64513 k = true ↔ k < 19 ∧ mw k ≤ 6) := by decide +kernel
  intro k hk
  rw [h k (by omega)]
  unfold mk
  constructor
  · rintro ⟨h1, h2⟩
    exact ⟨mw k, if_pos h1, Nat.zero_le _, h2⟩
  · rintro ⟨v, h1, -, h2⟩
    by_cases c : k < 19
    · rw [if_pos c] at h1
      cases h1
      exact ⟨c, h2⟩
    · rw [if_neg c] at h1
      cases h1
theorem mskL : ∀ k, k ≤ 19 → (Nat.testBit 462880 k = true ↔ ∃ v, mk k = some v ∧ 6 ≤ v ∧ v ≤ 10) := by
  have h : ∀ k, k < 20 → (Nat.testBit 462880 k = true ↔ k < 19 ∧ 6 ≤ mw k ∧ mw k ≤ 10) := by decide +kernel
  intro k hk
  rw [h k (by omega)]
  unfold mk
  constructor
  · rintro ⟨h1, h2⟩
    exact ⟨mw k, if_pos h1, h2⟩
  · rintro ⟨v, h1, h2⟩
    by_cases c : k < 19
    · rw [if_pos c] at h1
      cases h1
      exact ⟨c, h2⟩
    · rw [if_neg c] at h1
      cases h1
section C
variable {I : mj_I} {L : mj_L} {P : mj_P} {Q : mj_Q} {d n r j s l wi u v : Nat} {b : Nat → Nat} {st : ST} {lo hi M : Nat} {W : NR} {R0 : RP}
theorem c_56aT (h2 : I 25 2 = nI u) (h3 : I 25 3 = nI v) (hab : u < v) (hb : v < 2 ^ 31) (k : Q (.inl (some (.int (nI 1)))) (107, I, L, P)) : mj_ev (d + 1) 56 [.ref 25] (107, I, L, P) Q := by
  refine ⟨rfl, ?_⟩
  show mj_run (mj_ev d) k56 Q (k56 0) [some (.ref 25)] [] (107, I, L, P) 0 0
  refine q_5 rfl ?_
  first | refine q_31E rfl (by decide) h3 ?_ | refine q_31 rfl (by decide) ?_
  refine q_5 rfl ?_
  first | refine q_31E rfl (by decide) h2 ?_ | refine q_31 rfl (by decide) ?_
  refine q_leN (by omega) (by omega) (fun hh => absurd hh (by omega)) (fun hh => ?_)
  refine q_0 ?_
  refine q_23 ?_
  refine q_27 (by first | exact Or.inl rfl | exact Or.inr rfl | assumption | (split <;> first | exact Or.inl rfl | exact Or.inr rfl)) ?_
  exact k
theorem c_56aF (h2 : I 25 2 = nI 0) (h3 : I 25 3 = nI 0) (k : Q (.inl (some (.int (nI 0)))) (107, I, L, P)) : mj_ev (d + 1) 56 [.ref 25] (107, I, L, P) Q := by
  refine ⟨rfl, ?_⟩
  show mj_run (mj_ev d) k56 Q (k56 0) [some (.ref 25)] [] (107, I, L, P) 0 0
  refine q_5 rfl ?_
  first | refine q_31E rfl (by decide) h3 ?_ | refine q_31 rfl (by decide) ?_
  refine q_5 rfl ?_
  first | refine q_31E rfl (by decide) h2 ?_ | refine q_31 rfl (by decide) ?_
  refine q_leN (by omega) (by omega) (fun hh => ?_) (fun hh => absurd hh (by omega))
  refine q_0 ?_
  refine q_27 (by first | exact Or.inl rfl | exact Or.inr rfl | assumption | (split <;> first | exact Or.inl rfl | exact Or.inr rfl)) ?_
  exact k
theorem c_57aT (h2 : I 25 4 = nI u) (h3 : I 25 5 = nI v) (hab : u < v) (hb : v < 2 ^ 31) (k : Q (.inl (some (.int (nI 1)))) (107, I, L, P)) : mj_ev (d + 1) 57 [.ref 25] (107, I, L, P) Q := by
  refine ⟨rfl, ?_⟩
  show mj_run (mj_ev d) k57 Q (k57 0) [some (.ref 25)] [] (107, I, L, P) 0 0
  refine q_5 rfl ?_
  first | refine q_31E rfl (by decide) h3 ?_ | refine q_31 rfl (by decide) ?_
  refine q_5 rfl ?_
  first | refine q_31E rfl (by decide) h2 ?_ | refine q_31 rfl (by decide) ?_
  refine q_leN (by omega) (by omega) (fun hh => absurd hh (by omega)) (fun hh => ?_)
  refine q_0 ?_
  refine q_23 ?_
  refine q_27 (by first | exact Or.inl rfl | exact Or.inr rfl | assumption | (split <;> first | exact Or.inl rfl | exact Or.inr rfl)) ?_
  exact k
theorem c_57aF (h2 : I 25 4 = nI 0) (h3 : I 25 5 = nI 0) (k : Q (.inl (some (.int (nI 0)))) (107, I, L, P)) : mj_ev (d + 1) 57 [.ref 25] (107, I, L, P) Q := by
  refine ⟨rfl, ?_⟩
  show mj_run (mj_ev d) k57 Q (k57 0) [some (.ref 25)] [] (107, I, L, P) 0 0
  refine q_5 rfl ?_
  first | refine q_31E rfl (by decide) h3 ?_ | refine q_31 rfl (by decide) ?_
  refine q_5 rfl ?_
  first | refine q_31E rfl (by decide) h2 ?_ | refine q_31 rfl (by decide) ?_
  refine q_leN (by omega) (by omega) (fun hh => ?_) (fun hh => absurd hh (by omega))
  refine q_0 ?_
  refine q_27 (by first | exact Or.inl rfl | exact Or.inr rfl | assumption | (split <;> first | exact Or.inl rfl | exact Or.inr rfl)) ?_
  exact k
theorem c_59a (h1 : I 25 1 = nI s) (k : Q (.inl none) (107, mj_upI (mj_upI I 25 4 (nI u)) 25 5 (nI s), L, P)) : mj_ev (d + 1) 59 [.ref 25, .int (nI u)] (107, I, L, P) Q := by
  refine ⟨rfl, ?_⟩
  have h1b : mj_upI I 25 4 (nI u) 25 1 = nI s := h1
  show mj_run (mj_ev d) k59 Q (k59 0) [some (.ref 25), some (.int (nI u))] [] (107, I, L, P) 0 0
  refine q_5 rfl ?_
  refine q_3 rfl ?_
  refine q_34 rfl (by decide) ?_
  refine q_5 rfl ?_
  refine q_5 rfl ?_
  first | refine q_31E rfl (by decide) h1b ?_ | refine q_31 rfl (by decide) ?_
  refine q_34 rfl (by decide) ?_
  refine q_25 ?_
  exact k
theorem c_58a (hP : PS 16 P) (h1 : I 25 1 = nI s) (hs : s < 5000) (hu : u < 5000) (k : Q (.inl none) (107, mj_upI (mj_upI I 25 2 (nI u)) 25 3 (nI s), L, P)) : mj_ev (d + 1) 58 [.ref 25, .int (nI u)] (107, I, L, P) Q := by
  refine ⟨rfl, ?_⟩
  have l27 : mj_ln 27 = 0 := rfl
  have h1b : mj_upI I 25 2 (nI u) 25 1 = nI s := h1
  have h1c : mj_upI (mj_upI I 25 2 (nI u)) 25 3 (nI s) 25 1 = nI s := h1
  show mj_run (mj_ev d) k58 Q (k58 0) [some (.ref 25), some (.int (nI u)), none] [] (107, I, L, P) 0 0
  by_cases c : s ≤ u
  · refine q_5 rfl ?_
    refine q_3 rfl ?_
    refine q_34 rfl (by decide) ?_
    refine q_5 rfl ?_
    refine q_5 rfl ?_
    first | refine q_31E rfl (by decide) h1b ?_ | refine q_31E rfl (by decide) h1c ?_ | refine q_31 rfl (by decide) ?_
    refine q_34 rfl (by decide) ?_
    refine q_3 rfl ?_
    refine q_6 rfl rfl rfl ?_
    refine q_3 rfl ?_
    refine q_5 rfl ?_
    first | refine q_31E rfl (by decide) h1b ?_ | refine q_31E rfl (by decide) h1c ?_ | refine q_31 rfl (by decide) ?_
    refine q_geN (by omega) (by omega) (fun hh => ?_) (fun hh => absurd hh (by omega))
    refine q_25 ?_
    exact k
  · refine q_5 rfl ?_
    refine q_3 rfl ?_
    refine q_34 rfl (by decide) ?_
    refine q_5 rfl ?_
    refine q_5 rfl ?_
    first | refine q_31E rfl (by decide) h1b ?_ | refine q_31E rfl (by decide) h1c ?_ | refine q_31 rfl (by decide) ?_
    refine q_34 rfl (by decide) ?_
    refine q_3 rfl ?_
    refine q_6 rfl rfl rfl ?_
    refine q_3 rfl ?_
    refine q_5 rfl ?_
    first | refine q_31E rfl (by decide) h1b ?_ | refine q_31E rfl (by decide) h1c ?_ | refine q_31 rfl (by decide) ?_
    refine q_geN (by omega) (by omega) (fun hh => absurd hh (by omega)) (fun hh => ?_)
    refine q_3 rfl ?_
    refine q_5 rfl ?_
    refine q_33 rfl (by decide) (hP _ _ _ rfl) ?_
    refine q_46 (by decide) (by decide) (by decide) ?_
    refine q_geN (by omega) (by omega) (fun hh => ?_) (fun hh => absurd hh (by omega))
    refine q_25 ?_
    exact k
theorem rpok_mem {m : Nat} : ∀ {R : RP} {h : Nat}, rpok lo hi m R h → ∀ q, q ∈ R → 1 ≤ q.1 ∧ q.1 ≤ 11 ∧ (q.1 = 2 → lo ≤ q.2 ∧ q.2 ≤ hi) ∧ (q.1 = 1 → q.2 < 10000)
  | [], _, _, q, hq => absurd hq List.not_mem_nil
  | p :: R, h, hr, q, hq => by
    rcases hr with ⟨a1, a2, -, a4⟩ | ⟨a1, a2, a3, -, a5⟩ | ⟨a1, -, a3⟩ | ⟨a1, a2, -, a4⟩
    · rcases List.mem_cons.mp hq with rfl | hq
      · exact ⟨by omega, by omega, fun z => absurd z (by omega), fun _ => a2⟩
      · exact rpok_mem a4 q hq
    · rcases List.mem_cons.mp hq with rfl | hq
      · exact ⟨by omega, by omega, fun _ => ⟨a2, a3⟩, fun z => absurd z (by omega)⟩
      · exact rpok_mem a5 q hq
    · rcases List.mem_cons.mp hq with rfl | hq
      · exact ⟨by omega, by omega, fun z => absurd z (by omega), fun z => absurd z (by omega)⟩
      · exact rpok_mem a3 q hq
    · rcases List.mem_cons.mp hq with rfl | hq
      · exact ⟨by omega, by omega, fun z => absurd z (by omega), fun z => absurd z (by omega)⟩
      · exact rpok_mem a4 q hq
end C
