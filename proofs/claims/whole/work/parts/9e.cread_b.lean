/-! the class clears, reads a text (what is told) -/
section C
variable {I : mj_I} {L : mj_L} {P : mj_P} {Q : mj_Q} {d n r j s t l wi u v : Nat} {b : Nat → Nat} {st : ST} {W : NR} {R0 : RP}
theorem c_55b (k : ∀ I', Eqf (frm [] [(12, 1), (12, 2), (12, 3), (12, 4), (12, 5), (12, 6)]) I I' → I' 12 1 = nI 0 → I' 12 2 = nI 0 → I' 12 3 = nI 0 → I' 12 4 = nI 0 → I' 12 5 = nI 0 → I' 12 6 = nI 0 → Q (.inl none) (107, I', L, P)) : mj_ev (d + 1) 55 [.ref 12] (107, I, L, P) Q := by
  refine ⟨rfl, ?_⟩
  show mj_run (mj_ev d) k55 Q (k55 0) [some (.ref 12)] [] (107, I, L, P) 0 0
  refine q_5 rfl ?_
  refine q_0 ?_
  refine q_34 rfl (by decide) ?_
  refine q_5 rfl ?_
  refine q_0 ?_
  refine q_34 rfl (by decide) ?_
  refine q_5 rfl ?_
  refine q_0 ?_
  refine q_34 rfl (by decide) ?_
  refine q_5 rfl ?_
  refine q_0 ?_
  refine q_34 rfl (by decide) ?_
  refine q_5 rfl ?_
  refine q_0 ?_
  refine q_34 rfl (by decide) ?_
  refine q_5 rfl ?_
  refine q_0 ?_
  refine q_34 rfl (by decide) ?_
  refine q_25 ?_
  exact k _ ((((((Eqf.rf.up rfl).up rfl).up rfl).up rfl).up rfl).up rfl) rfl rfl rfl rfl rfl rfl
theorem c_64b (hP : PS t P) (k : ∀ I', Eqf (frm [9, 10, 11] [(8, 0)]) I I' → I' 8 0 = nI 0 → (∀ p, p < 10 → I' 9 p = nI 0 ∧ I' 10 p = nI 0 ∧ I' 11 p = -(nI 1)) → Q (.inl none) (107, I', L, P)) : mj_ev (d + 1) 64 [.ref 8] (107, I, L, P) Q := by
  refine ⟨rfl, ?_⟩
  have lp : ∀ i, i ≤ 10 → ∀ I', Eqf (frm [9, 10, 11] [(8, 0)]) I I' → I' 8 0 = nI 0 → (∀ p, p < i → I' 9 p = nI 0 ∧ I' 10 p = nI 0 ∧ I' 11 p = -(nI 1)) → mj_run (mj_ev d) k64 Q (k64 7) [some (.ref 8), some (.int (nI i))] [] (107, I', L, P) 0 0 := by
    refine loop_up ?_ (fun i hi ih => ?_)
    · intro I' E f0 f1
      refine q_3 rfl ?_
      refine q_0 ?_
      refine q_geN (by omega) (by omega) (fun hh => ?_) (fun hh => absurd hh (by omega))
      refine q_25 ?_
      exact k I' E f0 f1
    · intro I' E f0 f1
      refine q_3 rfl ?_
      refine q_0 ?_
      refine q_geN (by omega) (by omega) (fun hh => absurd hh (by omega)) (fun hh => ?_)
      refine q_5 rfl ?_
      refine q_33 rfl (by decide) (hP _ _ _ rfl) ?_
      refine q_3 rfl ?_
      refine q_0 ?_
      refine q_42 _ rfl (by decide) rfl (by show _ < 10; omega) (by decide) ?_
      refine q_5 rfl ?_
      refine q_33 rfl (by decide) (hP _ _ _ rfl) ?_
      refine q_3 rfl ?_
      refine q_0 ?_
      refine q_42 _ rfl (by decide) rfl (by show _ < 10; omega) (by decide) ?_
      refine q_5 rfl ?_
      refine q_33 rfl (by decide) (hP _ _ _ rfl) ?_
      refine q_3 rfl ?_
      refine q_1 ?_
      refine q_42 _ rfl (by decide) rfl (by show _ < 10; omega) (by decide) ?_
      first | refine q_inc rfl rfl rfl ?_ | refine q_9 rfl rfl rfl ?_
      refine q_23 ?_
      refine ih _ (((E.up rfl).up rfl).up rfl) f0 (fun p hp => ?_)
      by_cases c : p = i
      · subst c
        refine ⟨?_, ?_, upI_s⟩
        · rw [upI_c (by decide), upI_c (by decide)]; exact upI_s
        · rw [upI_c (by decide)]; exact upI_s
      · obtain ⟨b1, b2, b3⟩ := f1 p (by omega)
        refine ⟨?_, ?_, ?_⟩
        · rw [upI_c (by decide), upI_c (by decide), upI_j c]; exact b1
        · rw [upI_c (by decide), upI_j c, upI_c (by decide)]; exact b2
        · rw [upI_j c, upI_c (by decide), upI_c (by decide)]; exact b3
  show mj_run (mj_ev d) k64 Q (k64 0) [some (.ref 8), none] [] (107, I, L, P) 0 0
  refine q_5 rfl ?_
  refine q_0 ?_
  refine q_34 rfl (by decide) ?_
  refine q_0 ?_
  refine q_6 rfl rfl rfl ?_
  exact lp 0 (by omega) _ (Eqf.rf.up rfl) upI_s (fun p hp => absurd hp (by omega))
theorem c_86b (hP : PS t P) (k : ∀ I', Eqf (frm [9, 10, 11] [(3, 0), (8, 0), (12, 1), (12, 2), (12, 3), (12, 4), (12, 5), (12, 6)]) I I' → MCb NR0 [] I' → Q (.inl none) (107, I', L, P)) : mj_ev (d + 2) 86 [.ref 3] (107, I, L, P) Q := by
  refine ⟨rfl, ?_⟩
  show mj_run (mj_ev (d + 1)) k86 Q (k86 0) [some (.ref 3)] [] (107, I, L, P) 0 0
  refine q_5 rfl ?_
  refine q_0 ?_
  refine q_34 rfl (by decide) ?_
  refine q_5 rfl ?_
  refine q_33 rfl (by decide) (hP _ _ _ rfl) ?_
  refine q_47 (mj_ev_mono _) [] rfl rfl rfl (by decide) rfl rfl rfl ?_
  refine c_64b hP (fun I1 e1 f0 f1 => ?_)
  refine q_5 rfl ?_
  refine q_33 rfl (by decide) (hP _ _ _ rfl) ?_
  refine q_47 (mj_ev_mono _) [] rfl rfl rfl (by decide) rfl rfl rfl ?_
  refine c_55b (fun I2 e2 q1 q2 q3 q4 q5 q6 => ?_)
  refine q_25 ?_
  refine k I2 (((Eqf.rf.up rfl).tr (e1.to rfl rfl)).tr (e2.to rfl rfl)) ⟨(e2 3 0 rfl).trans ((e1 3 0 rfl).trans rfl), fun p hp => absurd hp (Nat.not_lt_zero _), (e2 8 0 rfl).trans f0, fun p hp => ?_, ⟨⟨q2, q3⟩, q6⟩, ⟨q4, q5⟩, ⟨q1, fun i q hq => (by cases hq)⟩⟩
  obtain ⟨b1, b2, b3⟩ := f1 p hp
  exact ⟨(e2 9 p rfl).trans b1, (e2 10 p rfl).trans b2, (e2 11 p rfl).trans b3⟩
end C
