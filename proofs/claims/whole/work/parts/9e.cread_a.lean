/-! the class clears, reads a text (the draft) -/
theorem PS.tld {t u : Nat} {P : mj_P} (h : PS t P) : PS u (mj_upP P 29 2 (some u)) := by
  intro c j r e
  unfold mj_P0 at e
  unfold mj_upP
  by_cases hc : c = 29 ∧ j = 2
  · rw [if_pos hc] at e
    obtain ⟨rfl, rfl⟩ := hc
    rw [if_pos rfl, ← e]
    unfold va_up
    simp
  · rw [if_neg hc] at e
    have h2 := h c j r (by unfold mj_P0; rw [if_neg hc]; exact e)
    by_cases c1 : c = 29
    · rw [if_pos c1]
      have hj : j ≠ 2 := fun z => hc ⟨c1, z⟩
      unfold va_up
      subst c1
      simp [hj, h2]
    · rw [if_neg c1]
      exact h2
section C
variable {I : mj_I} {L : mj_L} {P : mj_P} {Q : mj_Q} {d n r j s t l wi u v : Nat} {b : Nat → Nat} {st : ST} {W : NR} {R0 : RP}
theorem c_55a (k : ∀ I', Eqf (frm [] [(25, 1), (25, 2), (25, 3), (25, 4), (25, 5), (25, 6)]) I I' → I' 25 1 = nI 0 → I' 25 2 = nI 0 → I' 25 3 = nI 0 → I' 25 4 = nI 0 → I' 25 5 = nI 0 → I' 25 6 = nI 0 → Q (.inl none) (107, I', L, P)) : mj_ev (d + 1) 55 [.ref 25] (107, I, L, P) Q := by
  refine ⟨rfl, ?_⟩
  show mj_run (mj_ev d) k55 Q (k55 0) [some (.ref 25)] [] (107, I, L, P) 0 0
  refine q_5 rfl ?_
  refine q_0 ?_
  refine q_34 rfl (by decide) ?_
  refine q_5 rfl ?_
  refine q_0 ?_
  refine q_34 rfl (by decide) ?_
  refine q_5 rfl ?_
  refine q_0 ?_
  refine q_34 rfl (by decide) ?_
  refine q_5 rfl ?_
  refine q_0 ?_
  refine q_34 rfl (by decide) ?_
  refine q_5 rfl ?_
  refine q_0 ?_
  refine q_34 rfl (by decide) ?_
  refine q_5 rfl ?_
  refine q_0 ?_
  refine q_34 rfl (by decide) ?_
  refine q_25 ?_
  exact k _ ((((((Eqf.rf.up rfl).up rfl).up rfl).up rfl).up rfl).up rfl) rfl rfl rfl rfl rfl rfl
theorem c_64a (hP : PS t P) (k : ∀ I', Eqf (frm [22, 23, 24] [(21, 0)]) I I' → I' 21 0 = nI 0 → (∀ p, p < 10 → I' 22 p = nI 0 ∧ I' 23 p = nI 0 ∧ I' 24 p = -(nI 1)) → Q (.inl none) (107, I', L, P)) : mj_ev (d + 1) 64 [.ref 21] (107, I, L, P) Q := by
  refine ⟨rfl, ?_⟩
  have lp : ∀ i, i ≤ 10 → ∀ I', Eqf (frm [22, 23, 24] [(21, 0)]) I I' → I' 21 0 = nI 0 → (∀ p, p < i → I' 22 p = nI 0 ∧ I' 23 p = nI 0 ∧ I' 24 p = -(nI 1)) → mj_run (mj_ev d) k64 Q (k64 7) [some (.ref 21), some (.int (nI i))] [] (107, I', L, P) 0 0 := by
    refine loop_up ?_ (fun i hi ih => ?_)
    · intro I' E f0 f1
      refine q_3 rfl ?_
      refine q_0 ?_
      refine q_geN (by omega) (by omega) (fun hh => ?_) (fun hh => absurd hh (by omega))
      refine q_25 ?_
      exact k I' E f0 f1
    · intro I' E f0 f1
      refine q_3 rfl ?_
      refine q_0 ?_
      refine q_geN (by omega) (by omega) (fun hh => absurd hh (by omega)) (fun hh => ?_)
      refine q_5 rfl ?_
      refine q_33 rfl (by decide) (hP _ _ _ rfl) ?_
      refine q_3 rfl ?_
      refine q_0 ?_
      refine q_42 _ rfl (by decide) rfl (by show _ < 10; omega) (by decide) ?_
      refine q_5 rfl ?_
      refine q_33 rfl (by decide) (hP _ _ _ rfl) ?_
      refine q_3 rfl ?_
      refine q_0 ?_
      refine q_42 _ rfl (by decide) rfl (by show _ < 10; omega) (by decide) ?_
      refine q_5 rfl ?_
      refine q_33 rfl (by decide) (hP _ _ _ rfl) ?_
      refine q_3 rfl ?_
      refine q_1 ?_
      refine q_42 _ rfl (by decide) rfl (by show _ < 10; omega) (by decide) ?_
      first | refine q_inc rfl rfl rfl ?_ | refine q_9 rfl rfl rfl ?_
      refine q_23 ?_
      refine ih _ (((E.up rfl).up rfl).up rfl) f0 (fun p hp => ?_)
      by_cases c : p = i
      · subst c
        refine ⟨?_, ?_, upI_s⟩
        · rw [upI_c (by decide), upI_c (by decide)]; exact upI_s
        · rw [upI_c (by decide)]; exact upI_s
      · obtain ⟨b1, b2, b3⟩ := f1 p (by omega)
        refine ⟨?_, ?_, ?_⟩
        · rw [upI_c (by decide), upI_c (by decide), upI_j c]; exact b1
        · rw [upI_c (by decide), upI_j c, upI_c (by decide)]; exact b2
        · rw [upI_j c, upI_c (by decide), upI_c (by decide)]; exact b3
  show mj_run (mj_ev d) k64 Q (k64 0) [some (.ref 21), none] [] (107, I, L, P) 0 0
  refine q_5 rfl ?_
  refine q_0 ?_
  refine q_34 rfl (by decide) ?_
  refine q_0 ?_
  refine q_6 rfl rfl rfl ?_
  exact lp 0 (by omega) _ (Eqf.rf.up rfl) upI_s (fun p hp => absurd hp (by omega))
theorem c_86a (hP : PS t P) (k : ∀ I', Eqf (frm [22, 23, 24] [(16, 0), (21, 0), (25, 1), (25, 2), (25, 3), (25, 4), (25, 5), (25, 6)]) I I' → MCa NR0 [] I' → Q (.inl none) (107, I', L, P)) : mj_ev (d + 2) 86 [.ref 16] (107, I, L, P) Q := by
  refine ⟨rfl, ?_⟩
  show mj_run (mj_ev (d + 1)) k86 Q (k86 0) [some (.ref 16)] [] (107, I, L, P) 0 0
  refine q_5 rfl ?_
  refine q_0 ?_
  refine q_34 rfl (by decide) ?_
  refine q_5 rfl ?_
  refine q_33 rfl (by decide) (hP _ _ _ rfl) ?_
  refine q_47 (mj_ev_mono _) [] rfl rfl rfl (by decide) rfl rfl rfl ?_
  refine c_64a hP (fun I1 e1 f0 f1 => ?_)
  refine q_5 rfl ?_
  refine q_33 rfl (by decide) (hP _ _ _ rfl) ?_
  refine q_47 (mj_ev_mono _) [] rfl rfl rfl (by decide) rfl rfl rfl ?_
  refine c_55a (fun I2 e2 q1 q2 q3 q4 q5 q6 => ?_)
  refine q_25 ?_
  refine k I2 (((Eqf.rf.up rfl).tr (e1.to rfl rfl)).tr (e2.to rfl rfl)) ⟨(e2 16 0 rfl).trans ((e1 16 0 rfl).trans rfl), fun p hp => absurd hp (Nat.not_lt_zero _), (e2 21 0 rfl).trans f0, fun p hp => ?_, ⟨⟨q2, q3⟩, trivial⟩, ⟨q4, q5⟩, q1⟩
  obtain ⟨b1, b2, b3⟩ := f1 p hp
  exact ⟨(e2 22 p rfl).trans b1, (e2 23 p rfl).trans b2, (e2 24 p rfl).trans b3⟩
end C
