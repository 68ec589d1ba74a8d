/-! the model's reckoning: a rule's steps, ALIKE, LIKING -/
theorem kQ {Q : mj_Q} {σ : mj_S} {a b : Int32} (k : Q (.inl (some (.int b))) σ) (e : a = b) : Q (.inl (some (.int a))) σ := by
  rw [e]
  exact k
def codeAt (f : Nat → Int32) : Nat → RP → Prop
  | k, [] => f k = nI 0
  | k, q :: R => f k = nI q.1 ∧ (if q.1 ≤ 2 then f (k + 1) = nI q.2 ∧ codeAt f (k + 2) R else codeAt f (k + 1) R)
/-- the pile holds s, its first one on top -/
def pil (f : Nat → Int32) : List Int32 → Prop
  | [] => True
  | x :: s => f s.length = x ∧ pil f s
theorem pil_up {f g : Nat → Int32} : ∀ {s : List Int32}, (∀ j, j < s.length → g j = f j) → pil f s → pil g s
  | [], _, _ => trivial
  | x :: s, h, hp => ⟨by rw [h _ (by simp)]; exact hp.1, pil_up (fun j hj => h j (by rw [List.length_cons]; omega)) hp.2⟩
def ruleAt (f : Nat → Int32) (v : Int32) (lo hi : Nat) : Option RP → Prop
  | none => v = -(nI 1)
  | some R => ∃ k, v = nI k ∧ codeAt f k R ∧ k + 2 * R.length + 1 ≤ 1400 ∧ rpok lo hi 36 R 0
section M
variable {I : mj_I} {L : mj_L} {P : mj_P} {Q : mj_Q} {σ : mj_S} {d n r t a b : Nat}
theorem s_201 {x y : Int32} (t4 : 4 ≤ t) (t11 : t ≤ 11) (k : Q (.inl (some (.int (opv t x y)))) (107, I, L, P)) : mj_ev (d + 1) 201 [.int (nI t), .int x, .int y] (107, I, L, P) Q := by
  refine ⟨rfl, ?_⟩
  show mj_run (mj_ev d) k201 Q (k201 0) [some (.int (nI t)), some (.int x), some (.int y)] [] (107, I, L, P) 0 0
  obtain rfl | rfl | rfl | rfl | rfl | rfl | rfl | rfl : t = 4 ∨ t = 5 ∨ t = 6 ∨ t = 7 ∨ t = 8 ∨ t = 9 ∨ t = 10 ∨ t = 11 := by omega
  · refine q_3 rfl ?_
    refine q_24E (t := 44) (rfl) ?_
    refine q_3 rfl ?_
    first | refine q_eqN0 (by omega) (fun hh => ?_) (fun hh => ?_) | refine q_eqI0 (fun hh => ?_) (fun hh => ?_)
    · refine q_0 ?_
      refine q_26 ?_
      exact kQ k (by simp_all [opv])
    · refine q_3 rfl ?_
      first | refine q_eqN0 (by omega) (fun hh => ?_) (fun hh => ?_) | refine q_eqI0 (fun hh => ?_) (fun hh => ?_)
      · refine q_0 ?_
        refine q_26 ?_
        exact kQ k (by simp_all [opv])
      · refine q_0 ?_
        refine q_23 ?_
        refine q_26 ?_
        exact kQ k (by simp_all [opv])
  · refine q_3 rfl ?_
    refine q_24E (t := 58) (rfl) ?_
    refine q_3 rfl ?_
    first | refine q_neN0 (by omega) (fun hh => ?_) (fun hh => ?_) | refine q_neI0 (fun hh => ?_) (fun hh => ?_)
    · refine q_0 ?_
      refine q_23 ?_
      refine q_26 ?_
      exact kQ k (by simp_all [opv])
    · refine q_3 rfl ?_
      first | refine q_eqN0 (by omega) (fun hh => ?_) (fun hh => ?_) | refine q_eqI0 (fun hh => ?_) (fun hh => ?_)
      · refine q_0 ?_
        refine q_26 ?_
        exact kQ k (by simp_all [opv])
      · refine q_0 ?_
        refine q_23 ?_
        refine q_26 ?_
        exact kQ k (by simp_all [opv])
  · refine q_3 rfl ?_
    refine q_24E (t := 72) (rfl) ?_
    refine q_3 rfl ?_
    refine q_3 rfl ?_
    first | refine q_d22_3Nn (J := 82) (by omega) (by omega) (fun j => q_0 (j)) (fun j => q_0 (q_23 (j))) ?_ | refine q_d22_3Ni (J := 82) (by omega) (by omega) (fun j => q_0 (j)) (fun j => q_0 (q_23 (j))) ?_ | refine q_d22_3In (J := 82) (fun j => q_0 (j)) (fun j => q_0 (q_23 (j))) ?_ | refine q_d22_3Ii (J := 82) (fun j => q_0 (j)) (fun j => q_0 (q_23 (j))) ?_
    refine q_26 ?_
    exact kQ k (by by_cases h : x < y <;> simp [opv, h])
  · refine q_3 rfl ?_
    refine q_24E (t := 83) (rfl) ?_
    refine q_3 rfl ?_
    refine q_3 rfl ?_
    first | refine q_d22_1Nn (J := 93) (by omega) (by omega) (fun j => q_0 (j)) (fun j => q_0 (q_23 (j))) ?_ | refine q_d22_1Ni (J := 93) (by omega) (by omega) (fun j => q_0 (j)) (fun j => q_0 (q_23 (j))) ?_ | refine q_d22_1Mn (J := 93) (by assumption) (fun j => q_0 (j)) (fun j => q_0 (q_23 (j))) ?_ | refine q_d22_1In (J := 93) (fun j => q_0 (j)) (fun j => q_0 (q_23 (j))) ?_ | refine q_d22_1Ii (J := 93) (fun j => q_0 (j)) (fun j => q_0 (q_23 (j))) ?_
    refine q_26 ?_
    exact kQ k (by by_cases h : x = y <;> simp [opv, h])
  · refine q_3 rfl ?_
    refine q_24E (t := 94) (rfl) ?_
    refine q_3 rfl ?_
    refine q_3 rfl ?_
    refine q_11 rfl ?_
    refine q_26 ?_
    exact k
  · refine q_3 rfl ?_
    refine q_24E (t := 98) (rfl) ?_
    refine q_3 rfl ?_
    refine q_3 rfl ?_
    refine q_11 rfl ?_
    refine q_26 ?_
    exact k
  · refine q_3 rfl ?_
    refine q_24E (t := 102) (rfl) ?_
    refine q_3 rfl ?_
    refine q_3 rfl ?_
    refine q_11 rfl ?_
    refine q_26 ?_
    exact k
  · refine q_3 rfl ?_
    refine q_24E (t := 106) (rfl) ?_
    refine q_3 rfl ?_
    refine q_neI0 (fun h => ?_) (fun h => ?_)
    · refine q_3 rfl ?_
      refine q_3 rfl ?_
      first | refine q_divN (by omega) (by omega) (by omega) ?_ | refine q_div (by assumption) ?_
      refine q_26 ?_
      exact kQ k (by simp_all [opv])
    · refine q_0 ?_
      refine q_23 ?_
      refine q_26 ?_
      exact kQ k (by simp_all [opv])
theorem s_203 (ha : a < 2 ^ 31) (hb : b < 2 ^ 31) (k : Q (.inl (some (.int (nI (dif a b))))) (107, I, L, P)) : mj_ev (d + 1) 203 [.int (nI a), .int (nI b)] (107, I, L, P) Q := by
  refine ⟨rfl, ?_⟩
  show mj_run (mj_ev d) k203 Q (k203 0) [some (.int (nI a)), some (.int (nI b))] [] (107, I, L, P) 0 0
  refine q_3 rfl ?_
  refine q_3 rfl ?_
  first | refine q_geN (by omega) (by omega) (fun hh => ?_) (fun hh => ?_) | refine q_geI (fun hh => ?_) (fun hh => ?_)
  · refine q_3 rfl ?_
    refine q_3 rfl ?_
    first | refine q_sub (by omega) ?_ | refine q_11 rfl ?_
    refine q_26 ?_
    exact kQ k (by unfold dif; split <;> first | rfl | omega)
  · refine q_3 rfl ?_
    refine q_3 rfl ?_
    first | refine q_sub (by omega) ?_ | refine q_11 rfl ?_
    refine q_23 ?_
    refine q_26 ?_
    exact kQ k (by unfold dif; split <;> first | rfl | omega)
theorem s_202 (hP : PS t P) {R : RP} {val : Nat → Int32} {k0 lo hi : Nat} (hhi : hi < 11) (hc : codeAt (I 78) k0 R) (hk0 : k0 + 2 * R.length + 1 ≤ 1400) (hr : rpok lo hi 36 R 0) (hv : ∀ v, lo ≤ v → v ≤ hi → I 91 v = val v) (k : ∀ I', Eqf (frm [92] []) I I' → Q (.inl (some (.int (rpv val R)))) (107, I', L, P)) : mj_ev (d + 2) 202 [.ref 73, .int (nI k0)] (107, I, L, P) Q := by
  refine ⟨rfl, ?_⟩
  have L4 : ∀ (R' : RP) (k1 : Nat) (s : List Int32) (I' : mj_I) (x4 : Option Value), codeAt (I 78) k1 R' → k1 + 2 * R'.length + 1 ≤ 1400 → rpok lo hi 36 R' s.length → pil (I' 92) s → s.length ≤ 36 → Eqf (frm [92] []) I I' → (rpn val R' s).headD 0 = rpv val R → mj_run (mj_ev (d + 1)) k202 Q (k202 4) [some (.ref 73), some (.int (nI k0)), some (.int (nI s.length)), some (.int (nI k1)), x4] [] (107, I', L, P) 0 0 := by
    intro R'
    induction R' with
    | nil =>
      intro k1 s I' x4 h1 h2 h3 h4 h5 h6 h7
      have c1 : I' 78 k1 = nI 0 := (h6 78 k1 rfl).trans h1
      obtain ⟨x, rfl⟩ : ∃ x, s = [x] := List.length_eq_one_iff.mp h3
      rw [List.length_nil] at h2
      have e0 : I' 92 0 = rpv val R := h4.1.trans h7
      refine q_5 rfl ?_
      refine q_33 rfl (by decide) (hP _ _ _ rfl) ?_
      refine q_3 rfl ?_
      first | refine q_38E _ rfl (by decide) rfl (by show _ < 1400; omega) (by decide) (c1) ?_ | refine q_38 _ rfl (by decide) rfl (by show _ < 1400; omega) (by decide) ?_
      refine q_eqN0 (by omega) (fun _ => ?_) (fun h => absurd rfl h)
      refine q_5 rfl ?_
      refine q_33 rfl (by decide) (hP _ _ _ rfl) ?_
      refine q_0 ?_
      first | refine q_38E _ rfl (by decide) rfl (by show _ < 950; omega) (by decide) (e0) ?_ | refine q_38 _ rfl (by decide) rfl (by show _ < 950; omega) (by decide) ?_
      refine q_26 ?_
      exact k I' h6
    | cons q R' ih =>
      intro k1 s I' x4 h1 h2 h3 h4 h5 h6 h7
      obtain ⟨t1, v1⟩ := q
      rw [List.length_cons] at h2
      have c1 : I' 78 k1 = nI t1 := (h6 78 k1 rfl).trans h1.1
      have h1b := h1.2
      rcases h3 with ⟨e, g1, g2, g3⟩ | ⟨e, g1, g2, g3, g4⟩ | ⟨e, g1, g2⟩ | ⟨e, g1, g2, g3⟩
      · have e' : t1 = 1 := e
        subst e'
        obtain ⟨h1c, h1d⟩ : I 78 (k1 + 1) = nI v1 ∧ codeAt (I 78) (k1 + 2) R' := h1b
        have c2 : I' 78 (k1 + 1) = nI v1 := (h6 78 _ rfl).trans h1c
        refine q_5 rfl ?_
        refine q_33 rfl (by decide) (hP _ _ _ rfl) ?_
        refine q_3 rfl ?_
        first | refine q_38E _ rfl (by decide) rfl (by show _ < 1400; omega) (by decide) (c1) ?_ | refine q_38E _ rfl (by decide) rfl (by show _ < 1400; omega) (by decide) (c2) ?_ | refine q_38 _ rfl (by decide) rfl (by show _ < 1400; omega) (by decide) ?_
        first | refine q_eqN0 (by omega) (fun hh => absurd hh (by omega)) (fun hh => ?_) | refine q_eqI0 (fun hh => absurd hh (nI_ne0 (by decide) (by decide))) (fun hh => ?_)
        refine q_5 rfl ?_
        refine q_33 rfl (by decide) (hP _ _ _ rfl) ?_
        refine q_3 rfl ?_
        first | refine q_38E _ rfl (by decide) rfl (by show _ < 1400; omega) (by decide) (c1) ?_ | refine q_38E _ rfl (by decide) rfl (by show _ < 1400; omega) (by decide) (c2) ?_ | refine q_38 _ rfl (by decide) rfl (by show _ < 1400; omega) (by decide) ?_
        refine q_6 rfl rfl rfl ?_
        first | refine q_inc rfl rfl rfl ?_ | refine q_9 rfl rfl rfl ?_
        refine q_3 rfl ?_
        refine q_0 ?_
        refine q_eqN (by omega) (by omega) (fun hh => ?_) (fun hh => absurd hh (by omega))
        refine q_5 rfl ?_
        refine q_33 rfl (by decide) (hP _ _ _ rfl) ?_
        refine q_3 rfl ?_
        refine q_3 rfl ?_
        refine q_0 ?_
        refine q_neN (by omega) (by omega) (fun hh => absurd hh (by omega)) (fun hh => ?_)
        refine q_5 rfl ?_
        refine q_33 rfl (by decide) (hP _ _ _ rfl) ?_
        refine q_3 rfl ?_
        first | refine q_38E _ rfl (by decide) rfl (by show _ < 1400; omega) (by decide) (c1) ?_ | refine q_38E _ rfl (by decide) rfl (by show _ < 1400; omega) (by decide) (c2) ?_ | refine q_38 _ rfl (by decide) rfl (by show _ < 1400; omega) (by decide) ?_
        refine q_23 ?_
        refine q_42 _ rfl (by decide) rfl (by show _ < 950; omega) (by decide) ?_
        first | refine q_inc rfl rfl rfl ?_ | refine q_9 rfl rfl rfl ?_
        first | refine q_inc rfl rfl rfl ?_ | refine q_9 rfl rfl rfl ?_
        refine q_23 ?_
        refine q_23 ?_
        refine ih (k1 + 2) (nI v1 :: s) _ _ h1d (by omega) g3 ⟨upI_s, pil_up (fun j hj => upI_j (by omega)) h4⟩ g2 (h6.up rfl) h7
      · have e' : t1 = 2 := e
        subst e'
        obtain ⟨h1c, h1d⟩ : I 78 (k1 + 1) = nI v1 ∧ codeAt (I 78) (k1 + 2) R' := h1b
        have c2 : I' 78 (k1 + 1) = nI v1 := (h6 78 _ rfl).trans h1c
        have g1' : lo ≤ v1 := g1
        have g2' : v1 ≤ hi := g2
        have c3 : I' 91 v1 = val v1 := (h6 91 _ rfl).trans (hv v1 g1 g2)
        refine q_5 rfl ?_
        refine q_33 rfl (by decide) (hP _ _ _ rfl) ?_
        refine q_3 rfl ?_
        first | refine q_38E _ rfl (by decide) rfl (by show _ < 1400; omega) (by decide) (c1) ?_ | refine q_38E _ rfl (by decide) rfl (by show _ < 1400; omega) (by decide) (c2) ?_ | refine q_38 _ rfl (by decide) rfl (by show _ < 1400; omega) (by decide) ?_
        first | refine q_eqN0 (by omega) (fun hh => absurd hh (by omega)) (fun hh => ?_) | refine q_eqI0 (fun hh => absurd hh (nI_ne0 (by decide) (by decide))) (fun hh => ?_)
        refine q_5 rfl ?_
        refine q_33 rfl (by decide) (hP _ _ _ rfl) ?_
        refine q_3 rfl ?_
        first | refine q_38E _ rfl (by decide) rfl (by show _ < 1400; omega) (by decide) (c1) ?_ | refine q_38E _ rfl (by decide) rfl (by show _ < 1400; omega) (by decide) (c2) ?_ | refine q_38 _ rfl (by decide) rfl (by show _ < 1400; omega) (by decide) ?_
        refine q_6 rfl rfl rfl ?_
        first | refine q_inc rfl rfl rfl ?_ | refine q_9 rfl rfl rfl ?_
        refine q_3 rfl ?_
        refine q_0 ?_
        refine q_eqN (by omega) (by omega) (fun hh => absurd hh (by omega)) (fun hh => ?_)
        refine q_3 rfl ?_
        refine q_0 ?_
        refine q_neN (by omega) (by omega) (fun hh => absurd hh (by omega)) (fun hh => ?_)
        refine q_5 rfl ?_
        refine q_33 rfl (by decide) (hP _ _ _ rfl) ?_
        refine q_3 rfl ?_
        refine q_3 rfl ?_
        refine q_0 ?_
        refine q_neN (by omega) (by omega) (fun hh => ?_) (fun hh => absurd hh (by omega))
        refine q_5 rfl ?_
        refine q_33 rfl (by decide) (hP _ _ _ rfl) ?_
        refine q_5 rfl ?_
        refine q_33 rfl (by decide) (hP _ _ _ rfl) ?_
        refine q_3 rfl ?_
        first | refine q_38E _ rfl (by decide) rfl (by show _ < 1400; omega) (by decide) (c1) ?_ | refine q_38E _ rfl (by decide) rfl (by show _ < 1400; omega) (by decide) (c2) ?_ | refine q_38 _ rfl (by decide) rfl (by show _ < 1400; omega) (by decide) ?_
        first | refine q_38E _ rfl (by decide) rfl (by show _ < 11; omega) (by decide) (c3) ?_ | refine q_38 _ rfl (by decide) rfl (by show _ < 11; omega) (by decide) ?_
        refine q_42 _ rfl (by decide) rfl (by show _ < 950; omega) (by decide) ?_
        first | refine q_inc rfl rfl rfl ?_ | refine q_9 rfl rfl rfl ?_
        first | refine q_inc rfl rfl rfl ?_ | refine q_9 rfl rfl rfl ?_
        refine q_23 ?_
        refine q_23 ?_
        refine ih (k1 + 2) (val v1 :: s) _ _ h1d (by omega) g4 ⟨upI_s, pil_up (fun j hj => upI_j (by omega)) h4⟩ g3 (h6.up rfl) h7
      · have e' : t1 = 3 := e
        subst e'
        have h1d : codeAt (I 78) (k1 + 1) R' := h1b
        cases s with
        | nil => exact absurd g1 (by simp)
        | cons x s =>
          have e0 : I' 92 (s.length + 1 - 1) = x := h4.1
          rw [List.length_cons] at h5 ⊢
          refine q_5 rfl ?_
          refine q_33 rfl (by decide) (hP _ _ _ rfl) ?_
          refine q_3 rfl ?_
          first | refine q_38E _ rfl (by decide) rfl (by show _ < 1400; omega) (by decide) (c1) ?_ | refine q_38 _ rfl (by decide) rfl (by show _ < 1400; omega) (by decide) ?_
          first | refine q_eqN0 (by omega) (fun hh => absurd hh (by omega)) (fun hh => ?_) | refine q_eqI0 (fun hh => absurd hh (nI_ne0 (by decide) (by decide))) (fun hh => ?_)
          refine q_5 rfl ?_
          refine q_33 rfl (by decide) (hP _ _ _ rfl) ?_
          refine q_3 rfl ?_
          first | refine q_38E _ rfl (by decide) rfl (by show _ < 1400; omega) (by decide) (c1) ?_ | refine q_38 _ rfl (by decide) rfl (by show _ < 1400; omega) (by decide) ?_
          refine q_6 rfl rfl rfl ?_
          first | refine q_inc rfl rfl rfl ?_ | refine q_9 rfl rfl rfl ?_
          refine q_3 rfl ?_
          refine q_0 ?_
          refine q_eqN (by omega) (by omega) (fun hh => absurd hh (by omega)) (fun hh => ?_)
          refine q_3 rfl ?_
          refine q_0 ?_
          refine q_neN (by omega) (by omega) (fun hh => ?_) (fun hh => absurd hh (by omega))
          refine q_3 rfl ?_
          refine q_0 ?_
          refine q_neN (by omega) (by omega) (fun hh => absurd hh (by omega)) (fun hh => ?_)
          refine q_5 rfl ?_
          refine q_33 rfl (by decide) (hP _ _ _ rfl) ?_
          refine q_3 rfl ?_
          refine q_0 ?_
          first | refine q_sub (by omega) ?_ | refine q_11 rfl ?_
          refine q_5 rfl ?_
          refine q_33 rfl (by decide) (hP _ _ _ rfl) ?_
          refine q_3 rfl ?_
          refine q_0 ?_
          first | refine q_sub (by omega) ?_ | refine q_11 rfl ?_
          first | refine q_38E _ rfl (by decide) rfl (by show _ < 950; omega) (by decide) (e0) ?_ | refine q_38 _ rfl (by decide) rfl (by show _ < 950; omega) (by decide) ?_
          first | refine q_d21_1Nn (J := 106) (by omega) (fun j => q_0 (j)) (fun j => q_0 (q_23 (j))) ?_ | refine q_d21_1Ni (J := 106) (by omega) (fun j => q_0 (j)) (fun j => q_0 (q_23 (j))) ?_ | refine q_d21_1In (J := 106) (fun j => q_0 (j)) (fun j => q_0 (q_23 (j))) ?_ | refine q_d21_1Ii (J := 106) (fun j => q_0 (j)) (fun j => q_0 (q_23 (j))) ?_
          refine q_42 _ rfl (by decide) rfl (by show _ < 950; omega) (by decide) ?_
          refine q_23 ?_
          refine q_23 ?_
          refine ih (k1 + 1) ((if x = 0 then nI 1 else nI 0) :: s) _ _ h1d (by omega) g2 ⟨?_, pil_up (fun j hj => upI_j (by omega)) h4.2⟩ (by rw [List.length_cons]; omega) (h6.up rfl) h7
          refine upI_s.trans ?_
          split <;> rfl
      · have g1' : 4 ≤ t1 := e
        have g2' : t1 ≤ 11 := g1
        have h1d : codeAt (I 78) (k1 + 1) R' := by
          rw [if_neg (by show ¬ t1 ≤ 2; omega)] at h1b
          exact h1b
        cases s with
        | nil => exact absurd g2 (by simp)
        | cons x s =>
          cases s with
          | nil => exact absurd g2 (by simp)
          | cons y s =>
            have e0 : I' 92 (s.length + 1) = x := h4.1
            have e1 : I' 92 (s.length + 1 - 1) = y := h4.2.1
            rw [List.length_cons, List.length_cons] at h5 ⊢
            have es : stp val t1 v1 (x :: y :: s) = opv t1 y x :: s := by
              unfold stp
              rw [if_neg (by omega), if_neg (by omega)]
              show (if t1 = 3 then _ else _) = _
              rw [if_neg (by omega)]
            refine q_5 rfl ?_
            refine q_33 rfl (by decide) (hP _ _ _ rfl) ?_
            refine q_3 rfl ?_
            first | refine q_38E _ rfl (by decide) rfl (by show _ < 1400; omega) (by decide) (c1) ?_ | refine q_38 _ rfl (by decide) rfl (by show _ < 1400; omega) (by decide) ?_
            first | refine q_eqN0 (by omega) (fun hh => absurd hh (by omega)) (fun hh => ?_) | refine q_eqI0 (fun hh => absurd hh (nI_ne0 (by omega) (by omega))) (fun hh => ?_)
            refine q_5 rfl ?_
            refine q_33 rfl (by decide) (hP _ _ _ rfl) ?_
            refine q_3 rfl ?_
            first | refine q_38E _ rfl (by decide) rfl (by show _ < 1400; omega) (by decide) (c1) ?_ | refine q_38 _ rfl (by decide) rfl (by show _ < 1400; omega) (by decide) ?_
            refine q_6 rfl rfl rfl ?_
            first | refine q_inc rfl rfl rfl ?_ | refine q_9 rfl rfl rfl ?_
            refine q_3 rfl ?_
            refine q_0 ?_
            refine q_eqN (by omega) (by omega) (fun hh => absurd hh (by omega)) (fun hh => ?_)
            refine q_3 rfl ?_
            refine q_0 ?_
            refine q_neN (by omega) (by omega) (fun hh => ?_) (fun hh => absurd hh (by omega))
            refine q_3 rfl ?_
            refine q_0 ?_
            refine q_neN (by omega) (by omega) (fun hh => ?_) (fun hh => absurd hh (by omega))
            first | refine q_dec rfl (by omega) rfl rfl ?_ | refine q_10 rfl rfl rfl ?_
            refine q_5 rfl ?_
            refine q_33 rfl (by decide) (hP _ _ _ rfl) ?_
            refine q_3 rfl ?_
            refine q_0 ?_
            first | refine q_sub (by omega) ?_ | refine q_11 rfl ?_
            refine q_3 rfl ?_
            refine q_5 rfl ?_
            refine q_33 rfl (by decide) (hP _ _ _ rfl) ?_
            refine q_3 rfl ?_
            refine q_0 ?_
            first | refine q_sub (by omega) ?_ | refine q_11 rfl ?_
            first | refine q_38E _ rfl (by decide) rfl (by show _ < 950; omega) (by decide) (e0) ?_ | refine q_38E _ rfl (by decide) rfl (by show _ < 950; omega) (by decide) (e1) ?_ | refine q_38 _ rfl (by decide) rfl (by show _ < 950; omega) (by decide) ?_
            refine q_5 rfl ?_
            refine q_33 rfl (by decide) (hP _ _ _ rfl) ?_
            refine q_3 rfl ?_
            first | refine q_38E _ rfl (by decide) rfl (by show _ < 950; omega) (by decide) (e0) ?_ | refine q_38E _ rfl (by decide) rfl (by show _ < 950; omega) (by decide) (e1) ?_ | refine q_38 _ rfl (by decide) rfl (by show _ < 950; omega) (by decide) ?_
            refine q_48 (mj_ev_mono _) [_, _, _] rfl rfl rfl rfl rfl ?_
            refine s_201 g1' g2' ?_
            refine q_42 _ rfl (by decide) rfl (by show _ < 950; omega) (by decide) ?_
            refine q_23 ?_
            refine ih (k1 + 1) (opv t1 y x :: s) _ _ h1d (by omega) g3 ⟨upI_s, pil_up (fun j hj => upI_j (by omega)) h4.2.2⟩ (by rw [List.length_cons]; omega) (h6.up rfl) ?_
            rw [← h7]
            show _ = (rpn val R' (stp val t1 v1 (x :: y :: s))).headD 0
            rw [es]
  show mj_run (mj_ev (d + 1)) k202 Q (k202 0) [some (.ref 73), some (.int (nI k0)), none, none, none] [] (107, I, L, P) 0 0
  refine q_0 ?_
  refine q_6 rfl rfl rfl ?_
  refine q_3 rfl ?_
  refine q_6 rfl rfl rfl ?_
  exact L4 R k0 [] I none hc hk0 hr trivial (by simp) Eqf.rf rfl
end M
