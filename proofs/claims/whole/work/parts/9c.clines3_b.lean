/-! the class reads a rule (what is told) -/
section C
variable {I : mj_I} {L : mj_L} {P : mj_P} {Q : mj_Q} {d n r j s l wi u v : Nat} {b : Nat → Nat} {st : ST} {lo hi M : Nat} {W : NR} {R0 : RP}
theorem c_56bT (h2 : I 12 2 = nI u) (h3 : I 12 3 = nI v) (hab : u < v) (hb : v < 2 ^ 31) (k : Q (.inl (some (.int (nI 1)))) (107, I, L, P)) : mj_ev (d + 1) 56 [.ref 12] (107, I, L, P) Q := by
  refine ⟨rfl, ?_⟩
  show mj_run (mj_ev d) k56 Q (k56 0) [some (.ref 12)] [] (107, I, L, P) 0 0
  refine q_5 rfl ?_
  first | refine q_31E rfl (by decide) h3 ?_ | refine q_31 rfl (by decide) ?_
  refine q_5 rfl ?_
  first | refine q_31E rfl (by decide) h2 ?_ | refine q_31 rfl (by decide) ?_
  refine q_leN (by omega) (by omega) (fun hh => absurd hh (by omega)) (fun hh => ?_)
  refine q_0 ?_
  refine q_23 ?_
  refine q_27 (by first | exact Or.inl rfl | exact Or.inr rfl | assumption | (split <;> first | exact Or.inl rfl | exact Or.inr rfl)) ?_
  exact k
theorem c_56bF (h2 : I 12 2 = nI 0) (h3 : I 12 3 = nI 0) (k : Q (.inl (some (.int (nI 0)))) (107, I, L, P)) : mj_ev (d + 1) 56 [.ref 12] (107, I, L, P) Q := by
  refine ⟨rfl, ?_⟩
  show mj_run (mj_ev d) k56 Q (k56 0) [some (.ref 12)] [] (107, I, L, P) 0 0
  refine q_5 rfl ?_
  first | refine q_31E rfl (by decide) h3 ?_ | refine q_31 rfl (by decide) ?_
  refine q_5 rfl ?_
  first | refine q_31E rfl (by decide) h2 ?_ | refine q_31 rfl (by decide) ?_
  refine q_leN (by omega) (by omega) (fun hh => ?_) (fun hh => absurd hh (by omega))
  refine q_0 ?_
  refine q_27 (by first | exact Or.inl rfl | exact Or.inr rfl | assumption | (split <;> first | exact Or.inl rfl | exact Or.inr rfl)) ?_
  exact k
theorem c_57bT (h2 : I 12 4 = nI u) (h3 : I 12 5 = nI v) (hab : u < v) (hb : v < 2 ^ 31) (k : Q (.inl (some (.int (nI 1)))) (107, I, L, P)) : mj_ev (d + 1) 57 [.ref 12] (107, I, L, P) Q := by
  refine ⟨rfl, ?_⟩
  show mj_run (mj_ev d) k57 Q (k57 0) [some (.ref 12)] [] (107, I, L, P) 0 0
  refine q_5 rfl ?_
  first | refine q_31E rfl (by decide) h3 ?_ | refine q_31 rfl (by decide) ?_
  refine q_5 rfl ?_
  first | refine q_31E rfl (by decide) h2 ?_ | refine q_31 rfl (by decide) ?_
  refine q_leN (by omega) (by omega) (fun hh => absurd hh (by omega)) (fun hh => ?_)
  refine q_0 ?_
  refine q_23 ?_
  refine q_27 (by first | exact Or.inl rfl | exact Or.inr rfl | assumption | (split <;> first | exact Or.inl rfl | exact Or.inr rfl)) ?_
  exact k
theorem c_57bF (h2 : I 12 4 = nI 0) (h3 : I 12 5 = nI 0) (k : Q (.inl (some (.int (nI 0)))) (107, I, L, P)) : mj_ev (d + 1) 57 [.ref 12] (107, I, L, P) Q := by
  refine ⟨rfl, ?_⟩
  show mj_run (mj_ev d) k57 Q (k57 0) [some (.ref 12)] [] (107, I, L, P) 0 0
  refine q_5 rfl ?_
  first | refine q_31E rfl (by decide) h3 ?_ | refine q_31 rfl (by decide) ?_
  refine q_5 rfl ?_
  first | refine q_31E rfl (by decide) h2 ?_ | refine q_31 rfl (by decide) ?_
  refine q_leN (by omega) (by omega) (fun hh => ?_) (fun hh => absurd hh (by omega))
  refine q_0 ?_
  refine q_27 (by first | exact Or.inl rfl | exact Or.inr rfl | assumption | (split <;> first | exact Or.inl rfl | exact Or.inr rfl)) ?_
  exact k
theorem c_59b (h1 : I 12 1 = nI s) (k : Q (.inl none) (107, mj_upI (mj_upI I 12 4 (nI u)) 12 5 (nI s), L, P)) : mj_ev (d + 1) 59 [.ref 12, .int (nI u)] (107, I, L, P) Q := by
  refine ⟨rfl, ?_⟩
  have h1b : mj_upI I 12 4 (nI u) 12 1 = nI s := h1
  show mj_run (mj_ev d) k59 Q (k59 0) [some (.ref 12), some (.int (nI u))] [] (107, I, L, P) 0 0
  refine q_5 rfl ?_
  refine q_3 rfl ?_
  refine q_34 rfl (by decide) ?_
  refine q_5 rfl ?_
  refine q_5 rfl ?_
  first | refine q_31E rfl (by decide) h1b ?_ | refine q_31 rfl (by decide) ?_
  refine q_34 rfl (by decide) ?_
  refine q_25 ?_
  exact k
theorem c_58b {R : RP} (hP : PS 3 P) (hz : SZb (R0 ++ R) I) (hr : rpok 0 6 36 R 0) (hl : (R0 ++ R).length ≤ 700) (h6 : I 12 6 = nI 0) (k : ∀ I', Eqf (frm [] [(12, 2), (12, 3), (12, 6)]) I I' → I' 12 2 = nI R0.length → I' 12 3 = nI (R0.length + R.length) → I' 12 6 = nI (av R) → Q (.inl none) (107, I', L, P)) : mj_ev (d + 1) 58 [.ref 12, .int (nI R0.length)] (107, I, L, P) Q := by
  refine ⟨rfl, ?_⟩
  have l14 : mj_ln 14 = 700 := rfl
  have ln : (R0 ++ R).length = R0.length + R.length := List.length_append
  obtain ⟨z1, z2⟩ := hz
  rw [ln] at z1
  have h1b : mj_upI I 12 2 (nI R0.length) 12 1 = nI (R0.length + R.length) := z1
  have lp : ∀ i, i ≤ R0.length + R.length → R0.length ≤ i → ∀ I', Eqf (frm [] [(12, 2), (12, 3), (12, 6)]) I I' → I' 12 2 = nI R0.length → I' 12 3 = nI (R0.length + R.length) → I' 12 6 = nI (av (R.take (i - R0.length))) → mj_run (mj_ev d) k58 Q (k58 15) [some (.ref 12), some (.int (nI R0.length)), some (.int (nI i))] [] (107, I', L, P) 0 0 := by
    refine loop_up ?_ (fun i hi ih => ?_)
    · intro _ I' E f1 f2 f3
      rw [show R0.length + R.length - R0.length = R.length by omega, List.take_length] at f3
      have h1 : I' 12 1 = nI (R0.length + R.length) := (E 12 1 rfl).trans z1
      refine q_3 rfl ?_
      refine q_5 rfl ?_
      first | refine q_31E rfl (by decide) h1 ?_ | refine q_31 rfl (by decide) ?_
      refine q_geN (by omega) (by omega) (fun hh => ?_) (fun hh => absurd hh (by omega))
      refine q_25 ?_
      exact k I' E f1 f2 f3
    · intro hi0 I' E f1 f2 f3
      have h1 : I' 12 1 = nI (R0.length + R.length) := (E 12 1 rfl).trans z1
      obtain ⟨q, hq⟩ : ∃ q, R[i - R0.length]? = some q := ⟨R[i - R0.length]'(by omega), List.getElem?_eq_getElem (by omega)⟩
      have hm := rpok_mem hr q (List.mem_of_getElem? hq)
      have h14 : I' 14 i = nI (kd q.1 * 2 ^ 20 + pay q) := (E 14 i rfl).trans (z2 i q (by rw [List.getElem?_append_right hi0]; exact hq))
      have tk : av (R.take (i + 1 - R0.length)) = av1 (av (R.take (i - R0.length))) q := by
        rw [show i + 1 - R0.length = (i - R0.length) + 1 by omega, List.take_succ, hq]
        unfold av
        rw [List.foldl_append]
        rfl
      have k10 : kd q.1 ≤ 10 := by
        unfold kd
        (repeat' split) <;> omega
      have kv18 : q.1 = 2 → kv q.2 < 20 := fun z => by
        have := (hm.2.2.1 z).2
        unfold kv
        (repeat' split) <;> omega
      have p9 : pay q < 10000 := by
        unfold pay
        by_cases c1 : q.1 = 1
        · rw [if_pos c1]
          exact hm.2.2.2 c1
        · rw [if_neg c1]
          by_cases c2 : q.1 = 2
          · rw [if_pos c2]
            have := kv18 c2
            omega
          · rw [if_neg c2]
            omega
      have e1 := stp_k (k := kd q.1) (v := pay q) (by omega) (by omega)
      by_cases c2 : q.1 = 2
      · have kd1 : kd q.1 = 1 := by rw [c2]; rfl
        have pv : pay q = kv q.2 := by
          unfold pay
          rw [if_neg (by omega), if_pos c2]
        have kl := kv18 c2
        have e3 : (kd q.1 * 2 ^ 20 + pay q) &&& 31 = kv q.2 := by
          have := Nat.and_two_pow_sub_one_eq_mod (kd q.1 * 2 ^ 20 + pay q) 5
          rw [show 2 ^ 5 - 1 = 31 from rfl] at this
          rw [this, kd1, pv]
          omega
        rw [show av1 (av (R.take (i - R0.length))) q = av (R.take (i - R0.length)) ||| 2 ^ kv q.2 from if_pos c2] at tk
        refine q_3 rfl ?_
        refine q_5 rfl ?_
        first | refine q_31E rfl (by decide) h1 ?_ | refine q_31 rfl (by decide) ?_
        refine q_geN (by omega) (by omega) (fun hh => absurd hh (by omega)) (fun hh => ?_)
        refine q_3 rfl ?_
        refine q_5 rfl ?_
        refine q_33 rfl (by decide) (hP _ _ _ rfl) ?_
        refine q_46 (by decide) (by decide) (by decide) ?_
        refine q_geN (by omega) (by omega) (fun hh => absurd hh (by omega)) (fun hh => ?_)
        refine q_5 rfl ?_
        refine q_33 rfl (by decide) (hP _ _ _ rfl) ?_
        refine q_3 rfl ?_
        first | refine q_38E _ rfl (by decide) rfl (by show _ < 700; omega) (by decide) (h14) ?_ | refine q_38 _ rfl (by decide) rfl (by show _ < 700; omega) (by decide) ?_
        refine q_0 ?_
        refine q_11 rfl ?_
        rw [e1, kd1]
        refine q_0 ?_
        refine q_neN (by omega) (by omega) (fun hh => absurd hh (by omega)) (fun hh => ?_)
        refine q_5 rfl ?_
        refine q_18 rfl ?_
        first | refine q_31E rfl (by decide) f3 ?_ | refine q_31 rfl (by decide) ?_
        refine q_0 ?_
        refine q_5 rfl ?_
        refine q_33 rfl (by decide) (hP _ _ _ rfl) ?_
        refine q_3 rfl ?_
        first | refine q_38E _ rfl (by decide) rfl (by show _ < 700; omega) (by decide) (h14) ?_ | refine q_38 _ rfl (by decide) rfl (by show _ < 700; omega) (by decide) ?_
        refine q_0 ?_
        first | refine q_andN ?_ | refine q_11 rfl ?_
        rw [e3]
        first | refine q_shl1 (by omega) ?_ | refine q_11 rfl ?_
        first | refine q_orN ?_ | refine q_11 rfl ?_
        refine q_34 rfl (by decide) ?_
        first | refine q_inc rfl rfl rfl ?_ | refine q_9 rfl rfl rfl ?_
        refine q_23 ?_
        exact ih (by omega) _ (E.up rfl) (by rw [upI_j (by decide)]; exact f1) (by rw [upI_j (by decide)]; exact f2) (by rw [upI_s, tk])
      · have kd1 : kd q.1 ≠ 1 := by
          have := hm.1
          unfold kd
          (repeat' split) <;> omega
        rw [show av1 (av (R.take (i - R0.length))) q = av (R.take (i - R0.length)) from if_neg c2] at tk
        refine q_3 rfl ?_
        refine q_5 rfl ?_
        first | refine q_31E rfl (by decide) h1 ?_ | refine q_31 rfl (by decide) ?_
        refine q_geN (by omega) (by omega) (fun hh => absurd hh (by omega)) (fun hh => ?_)
        refine q_3 rfl ?_
        refine q_5 rfl ?_
        refine q_33 rfl (by decide) (hP _ _ _ rfl) ?_
        refine q_46 (by decide) (by decide) (by decide) ?_
        refine q_geN (by omega) (by omega) (fun hh => absurd hh (by omega)) (fun hh => ?_)
        refine q_5 rfl ?_
        refine q_33 rfl (by decide) (hP _ _ _ rfl) ?_
        refine q_3 rfl ?_
        first | refine q_38E _ rfl (by decide) rfl (by show _ < 700; omega) (by decide) (h14) ?_ | refine q_38 _ rfl (by decide) rfl (by show _ < 700; omega) (by decide) ?_
        refine q_0 ?_
        refine q_11 rfl ?_
        rw [e1]
        refine q_0 ?_
        refine q_neN (by omega) (by omega) (fun hh => ?_) (fun hh => absurd hh (by omega))
        first | refine q_inc rfl rfl rfl ?_ | refine q_9 rfl rfl rfl ?_
        refine q_23 ?_
        exact ih (by omega) _ E f1 f2 (by rw [tk]; exact f3)
  show mj_run (mj_ev d) k58 Q (k58 0) [some (.ref 12), some (.int (nI R0.length)), none] [] (107, I, L, P) 0 0
  refine q_5 rfl ?_
  refine q_3 rfl ?_
  refine q_34 rfl (by decide) ?_
  refine q_5 rfl ?_
  refine q_5 rfl ?_
  first | refine q_31E rfl (by decide) h1b ?_ | refine q_31 rfl (by decide) ?_
  refine q_34 rfl (by decide) ?_
  refine q_3 rfl ?_
  refine q_6 rfl rfl rfl ?_
  exact lp R0.length (by omega) (Nat.le_refl _) _ ((Eqf.rf.up rfl).up rfl) (by rw [upI_j (by decide)]; exact upI_s) upI_s (by rw [Nat.sub_self, upI_j (by decide), upI_j (by decide)]; exact h6)
end C
