/-! the class reads an EXPR (what is told) -/
section C
variable {I : mj_I} {L : mj_L} {P : mj_P} {Q : mj_Q} {d n r j s l wi : Nat} {b : Nat → Nat} {st : ST} {lo hi M : Nat}
def Fb : Nat → Nat → Bool := frm [14] ((12, 1) :: rdG)
theorem RB.fb {I' : mj_I} (h : RB b n I) (e : Eqf Fb I I') : RB b n I' := h.fr (fun q => e 1 q rfl) (e 29 3 rfl)
theorem upb {I1 I' : mj_I} (E : Eqf Fb I I1) (e : Eqf (frm [] rdG) I1 I') : Eqf Fb I I' := E.tr (e.to rfl rfl)
theorem utb {I1 I' : mj_I} (E : Eqf Fb I I1) (e : Eqf (frm [] tcF) I1 I') : Eqf Fb I I' := E.tr (e.to rfl rfl)
theorem usb {I1 I' : mj_I} (E : Eqf Fb I I1) (e : Eqf (frm [14] [(12, 1)]) I1 I') : Eqf Fb I I' := E.tr (e.to rfl rfl)
theorem SC.sb {I' : mj_I} (h : SC b n st I) (e : Eqf (frm [14] [(12, 1)]) I I') : SC b n st I' := h.fr (fun q hq => by rcases hq with rfl | rfl | rfl | rfl | rfl | rfl | rfl <;> exact e 29 _ rfl)
theorem SZb.g {R0 : RP} {I' : mj_I} (h : SZb R0 I) (e : Eqf (frm [] rdG) I I') : SZb R0 I' := ⟨(e 12 1 rfl).trans h.1, fun i q hq => (e 14 i rfl).trans (h.2 i q hq)⟩
/-- nots behind their part -/
theorem ntbG {R0 : RP} {na : Nat} (hP : PS 3 P) (hz : SZb R0 I) (hl : R0.length + na ≤ 700) (kk : ∀ I', Eqf (frm [14] [(12, 1)]) I I' → SZb (R0 ++ List.replicate na (3, 0)) I' → Q (.inl none) (107, I', L, P)) : ∀ x1 x2 x4 x5 x6, mj_run (mj_ev (d + 1)) k49 Q (k49 104) [some (.ref 29), some (.int x1), some (.int x2), some (.int (nI na)), some (.int x4), x5, x6] [] (107, I, L, P) 0 0 := by
  intro x1 x2 x4 x5 x6
  have lp : ∀ i, i ≤ na → ∀ I', Eqf (frm [14] [(12, 1)]) I I' → SZb (R0 ++ List.replicate i (3, 0)) I' → mj_run (mj_ev (d + 1)) k49 Q (k49 107) [some (.ref 29), some (.int x1), some (.int x2), some (.int (nI na)), some (.int x4), some (.int (nI i)), x6] [] (107, I', L, P) 0 0 := by
    refine loop_up ?_ (fun i hi ih => ?_)
    · intro I' E hz
      refine q_3 rfl ?_
      refine q_3 rfl ?_
      refine q_geN (by omega) (by omega) (fun hh => ?_) (fun hh => absurd hh (by omega))
      refine q_25 ?_
      exact kk I' E hz
    · intro I' E hz
      have ln : (R0 ++ List.replicate i ((3, 0) : Nat × Nat)).length = R0.length + i := by rw [List.length_append, List.length_replicate]
      refine q_3 rfl ?_
      refine q_3 rfl ?_
      refine q_geN (by omega) (by omega) (fun hh => absurd hh (by omega)) (fun hh => ?_)
      refine q_5 rfl ?_
      refine q_33 rfl (by decide) (hP _ _ _ rfl) ?_
      refine q_33 rfl (by decide) (hP _ _ _ rfl) ?_
      refine q_0 ?_
      refine q_0 ?_
      refine q_47 (mj_ev_mono _) [_, _] rfl rfl rfl (by decide) rfl rfl rfl ?_
      refine c_61b (q := (3, 0)) ⟨by decide, by decide⟩ (by omega) hP hz (fun I2 e2 hz2 => ?_)
      first | refine q_inc rfl rfl rfl ?_ | refine q_9 rfl rfl rfl ?_
      refine q_23 ?_
      refine ih I2 (E.tr e2) ?_
      rw [List.append_assoc] at hz2
      rw [List.replicate_succ']
      exact hz2
  refine q_0 ?_
  refine q_6 rfl rfl rfl ?_
  exact lp 0 (Nat.zero_le _) I Eqf.rf (by rw [show List.replicate 0 ((3, 0) : Nat × Nat) = [] from rfl, List.append_nil]; exact hz)
theorem ntbB {na : Nat} (hP : PS 3 P) (hz : I 12 1 = nI s) (hl : s + na < 5000) (kk : ∀ I', Eqf (frm [14] [(12, 1)]) I I' → I' 12 1 = nI (s + na) → Q (.inl none) (107, I', L, P)) : ∀ x1 x2 x4 x5 x6, mj_run (mj_ev (d + 1)) k49 Q (k49 104) [some (.ref 29), some (.int x1), some (.int x2), some (.int (nI na)), some (.int x4), x5, x6] [] (107, I, L, P) 0 0 := by
  intro x1 x2 x4 x5 x6
  have lp : ∀ i, i ≤ na → ∀ I', Eqf (frm [14] [(12, 1)]) I I' → I' 12 1 = nI (s + i) → mj_run (mj_ev (d + 1)) k49 Q (k49 107) [some (.ref 29), some (.int x1), some (.int x2), some (.int (nI na)), some (.int x4), some (.int (nI i)), x6] [] (107, I', L, P) 0 0 := by
    refine loop_up ?_ (fun i hi ih => ?_)
    · intro I' E hz
      refine q_3 rfl ?_
      refine q_3 rfl ?_
      refine q_geN (by omega) (by omega) (fun hh => ?_) (fun hh => absurd hh (by omega))
      refine q_25 ?_
      exact kk I' E hz
    · intro I' E hz
      refine q_3 rfl ?_
      refine q_3 rfl ?_
      refine q_geN (by omega) (by omega) (fun hh => absurd hh (by omega)) (fun hh => ?_)
      refine q_5 rfl ?_
      refine q_33 rfl (by decide) (hP _ _ _ rfl) ?_
      refine q_33 rfl (by decide) (hP _ _ _ rfl) ?_
      refine q_0 ?_
      refine q_0 ?_
      refine q_47 (mj_ev_mono _) [_, _] rfl rfl rfl (by decide) rfl rfl rfl ?_
      refine c_61bF (s := s + i) hP hz (by omega) (fun I2 e2 hz2 => ?_)
      first | refine q_inc rfl rfl rfl ?_ | refine q_9 rfl rfl rfl ?_
      refine q_23 ?_
      exact ih I2 (E.tr e2) hz2
  refine q_0 ?_
  refine q_6 rfl rfl rfl ?_
  exact lp 0 (Nat.zero_le _) I Eqf.rf hz
/-- out of a level after a FAULT -/
theorem exbB {na lim turn : Nat} (hP : PS 3 P) (hl4 : l ≤ 4) (h6 : I 29 6 = nI 23) (hz : I 12 1 = nI s) (hl : s + na < 5000) (hlim : lim ≤ 700) (ht : turn ≤ 800) (kk : ∀ I', Eqf (frm [14] [(12, 1)]) I I' → I' 12 1 = nI (s + na) → Q (.inl none) (107, I', L, P)) : ∀ x2 x6, mj_run (mj_ev (d + 1)) k49 Q (k49 50) [some (.ref 29), some (.int (nI l)), some (.int x2), some (.int (nI na)), some (.int (nI lim)), some (.int (nI turn)), x6] [] (107, I, L, P) 0 0 := by
  intro x2 x6
  by_cases c : lim ≤ turn
  · refine q_3 rfl ?_
    refine q_3 rfl ?_
    refine q_geN (by omega) (by omega) (fun hh => ?_) (fun hh => absurd hh (by omega))
    exact ntbB hP hz hl kk _ _ _ _ _
  · have j23 : jI l 23 = -(nI 1) := by
      unfold jI
      rw [show jn l 23 = none from by unfold jn; (repeat' split) <;> first | rfl | omega]
    refine q_3 rfl ?_
    refine q_3 rfl ?_
    refine q_geN (by omega) (by omega) (fun hh => absurd hh (by omega)) (fun hh => ?_)
    refine q_5 rfl ?_
    refine q_3 rfl ?_
    refine q_47 (mj_ev_mono _) [_] rfl rfl rfl (by decide) rfl rfl rfl ?_
    refine c_51 h6 (by omega) hl4 ?_
    rw [j23]
    refine q_1 ?_
    refine q_eqI (fun _ => ?_) (fun z => absurd rfl z)
    exact ntbB hP hz hl kk _ _ _ _ _
/-- a level from a FAULT on -/
theorem c_52bB {e : Nat × Nat} (hS : SC b n (.inl e) I) (kk : ∀ I', Eqf (frm [] [(29, 6)]) I I' → I' 29 6 = nI 23 → Q (.inl none) (107, I', L, P)) : mj_ev (d + 2) 52 [.ref 29, .int (nI wi)] (107, I, L, P) Q := by
  refine ⟨rfl, ?_⟩
  obtain ⟨g1, g2, g3, g4, g5⟩ := hS
  show mj_run (mj_ev (d + 1)) k52 Q (k52 0) [some (.ref 29), some (.int (nI wi))] [] (107, I, L, P) 0 0
  refine q_5 rfl ?_
  first | refine q_31E rfl (by decide) g5 ?_ | refine q_31 rfl (by decide) ?_
  refine q_0 ?_
  refine q_neN (by omega) (by omega) (fun hh => ?_) (fun hh => absurd hh (by omega))
  refine q_5 rfl ?_
  first | refine q_31E rfl (by decide) g5 ?_ | refine q_31 rfl (by decide) ?_
  refine q_0 ?_
  refine q_neN (by omega) (by omega) (fun hh => ?_) (fun hh => absurd hh (by omega))
  refine q_5 rfl ?_
  first | refine q_31E rfl (by decide) g5 ?_ | refine q_31 rfl (by decide) ?_
  refine q_0 ?_
  refine q_neN (by omega) (by omega) (fun hh => ?_) (fun hh => absurd hh (by omega))
  refine q_5 rfl ?_
  refine q_47 (mj_ev_mono _) [] rfl rfl rfl (by decide) rfl rfl rfl ?_
  refine c_42 g5 (by omega) ?_
  rw [if_neg (by omega)]
  first | refine q_neN0 (by omega) (fun hh => absurd hh (by omega)) (fun hh => ?_) | refine q_neI0 (fun hh => absurd hh (by omega)) (fun hh => ?_)
  refine q_5 rfl ?_
  refine q_0 ?_
  refine q_47 (mj_ev_mono _) [_] rfl rfl rfl (by decide) rfl rfl rfl ?_
  refine c_38B g3 g1 g2 ?_
  refine q_23 ?_
  refine q_25 ?_
  exact kk _ (Eqf.rf.up rfl) upI_s
theorem c_49bB (hP : PS 3 P) {e : Nat × Nat} : ∀ m l, l + m = 5 → ∀ I Q, SC b n (.inl e) I → I 12 1 = nI s → s < 4000 → (∀ I', Eqf Fb I I' → SC b n (.inl e) I' → I' 12 1 = nI s → Q (.inl none) (107, I', L, P)) → mj_ev (d + 3 + m) 49 [.ref 29, .int (nI l), .int (nI wi)] (107, I, L, P) Q := by
  intro m
  induction m with
  | zero =>
    intro l hl I Q hS hz hs kk
    have l5 : l = 5 := by omega
    subst l5
    refine ⟨rfl, ?_⟩
    show mj_run (mj_ev (d + 2)) k49 Q (k49 0) [some (.ref 29), some (.int (nI 5)), some (.int (nI wi)), none, none, none, none] [] (107, I, L, P) 0 0
    refine q_3 rfl ?_
    refine q_0 ?_
    refine q_leN (by omega) (by omega) (fun hh => absurd hh (by omega)) (fun hh => ?_)
    refine q_5 rfl ?_
    refine q_3 rfl ?_
    refine q_47 (mj_ev_mono _) [_] rfl rfl rfl (by decide) rfl rfl rfl ?_
    refine c_52bB hS (fun I' e1 g6 => ?_)
    refine q_25 ?_
    exact kk I' (e1.to rfl rfl) ⟨hS.1, hS.2.1, (e1 29 9 rfl).trans hS.2.2.1, (e1 29 0 rfl).trans hS.2.2.2.1, g6⟩ ((e1 12 1 rfl).trans hz)
  | succ m ih =>
    intro l hl I Q hS hz hs kk
    refine ⟨rfl, ?_⟩
    show mj_run (mj_ev (d + 3 + m)) k49 Q (k49 0) [some (.ref 29), some (.int (nI l)), some (.int (nI wi)), none, none, none, none] [] (107, I, L, P) 0 0
    have nx : ∀ I', Eqf Fb I I' → SC b n (.inl e) I' → I' 12 1 = nI s → ∀ lim x6, lim ≤ 700 → mj_run (mj_ev (d + 3 + m)) k49 Q (k49 50) [some (.ref 29), some (.int (nI l)), some (.int (nI wi)), some (.int (nI 0)), some (.int (nI lim)), some (.int (nI 0)), x6] [] (107, I', L, P) 0 0 := fun I' e1 h1 h2 lim x6 hlim => by
      rw [show d + 3 + m = (d + 2 + m) + 1 by omega]
      exact exbB (na := 0) hP (by omega) h1.2.2.2.2 h2 (by omega) hlim (by omega) (fun I2 e2 h3 => kk I2 (usb e1 e2) (h1.sb e2) h3) _ _
    have cl : ∀ (Q2 : mj_Q), (∀ I', Eqf Fb I I' → SC b n (.inl e) I' → I' 12 1 = nI s → Q2 (.inl none) (107, I', L, P)) → mj_ev (d + 3 + m) 49 [.ref 29, .int (nI (l + 1)), .int (nI wi)] (107, I, L, P) Q2 := fun Q2 h => ih (l + 1) (by omega) I Q2 hS hz hs h
    by_cases l2 : l = 2
    · refine q_3 rfl ?_
      refine q_0 ?_
      refine q_leN (by omega) (by omega) (fun hh => ?_) (fun hh => absurd hh (by omega))
      refine q_3 rfl ?_
      refine q_0 ?_
      refine q_neN (by omega) (by omega) (fun hh => absurd hh (by omega)) (fun hh => ?_)
      refine q_5 rfl ?_
      refine q_47 (mj_ev_mono _) [] rfl rfl rfl (by decide) rfl rfl rfl ?_
      rw [show d + 3 + m = (d + 2 + m) + 1 by omega]
      refine c_50B hS.2.2.2.2 ?_
      rw [show (d + 2 + m) + 1 = d + 3 + m by omega]
      refine q_23 ?_
      refine q_6 rfl rfl rfl ?_
      refine q_5 rfl ?_
      refine q_3 rfl ?_
      refine q_0 ?_
      first | refine q_add ?_ | refine q_11 rfl ?_
      refine q_3 rfl ?_
      refine q_47 (mj_ev_mono _) [_, _] rfl rfl rfl (by decide) rfl rfl rfl ?_
      refine cl _ (fun I' e1 h1 h2 => ?_)
      refine q_3 rfl ?_
      refine q_0 ?_
      refine q_neN (by omega) (by omega) (fun hh => absurd hh (by omega)) (fun hh => ?_)
      refine q_0 ?_
      refine q_23 ?_
      refine q_6 rfl rfl rfl ?_
      refine q_0 ?_
      refine q_6 rfl rfl rfl ?_
      exact nx I' e1 h1 h2 1 _ (by omega)
    · refine q_3 rfl ?_
      refine q_0 ?_
      refine q_leN (by omega) (by omega) (fun hh => ?_) (fun hh => absurd hh (by omega))
      refine q_3 rfl ?_
      refine q_0 ?_
      refine q_neN (by omega) (by omega) (fun hh => ?_) (fun hh => absurd hh (by omega))
      refine q_0 ?_
      refine q_6 rfl rfl rfl ?_
      refine q_5 rfl ?_
      refine q_3 rfl ?_
      refine q_0 ?_
      first | refine q_add ?_ | refine q_11 rfl ?_
      refine q_3 rfl ?_
      refine q_47 (mj_ev_mono _) [_, _] rfl rfl rfl (by decide) rfl rfl rfl ?_
      refine cl _ (fun I' e1 h1 h2 => ?_)
      refine q_3 rfl ?_
      refine q_0 ?_
      refine q_neN (by omega) (by omega) (fun hh => ?_) (fun hh => absurd hh (by omega))
      refine q_0 ?_
      refine q_6 rfl rfl rfl ?_
      refine q_0 ?_
      refine q_6 rfl rfl rfl ?_
      exact nx I' e1 h1 h2 700 _ (by omega)
end C
