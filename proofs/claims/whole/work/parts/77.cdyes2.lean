/-! the class: dyed, next -/
theorem nxt_at {f : Nat → Nat → Nat} {n : Nat} (hn : 0 < n) (h8 : ∀ k, 8 ≤ k → ∀ a, a < n → f a k = f 0 k) : ∃ t, 1 ≤ t ∧ t ≤ 8 ∧ nxtS f n = (some t, dst (fun a => f a (t - 1)) n) := by
  rw [nxt_8 hn h8]
  refine fld_inv (α := Option Nat × Nat) (n := 8) (f := nxtF f n) (p := fun _ x => ∃ t, 1 ≤ t ∧ t ≤ 8 ∧ x = (some t, dst (fun a => f a (t - 1)) n)) (i := 1) (acc := (some 1, dst (fun a => f a 0) n)) ⟨1, by omega, by omega, rfl⟩ (fun j x h1 h2 hx => ?_) (by omega)
  unfold nxtF
  split
  · exact ⟨j + 1, by omega, by omega, by rw [Nat.add_sub_cancel]⟩
  · exact hx
theorem rof_8 {A : AS} (hh : ∀ p, p < A.w.n → A.h p < 10) : ∀ k, 8 ≤ k → ∀ a, a < gmn A → rof A a k = rof A 0 k := fun k hk a _ => by
  unfold rof rwk rcd
  refine fld_congr (fun p v _ hp => ?_)
  rw [many_9 hh (by omega) p hp, many_9 hh (by omega) p hp]
theorem rof_dst {A : AS} {f : Nat} (hn : A.w.n ≤ 10) (hg : gm A.w.n A.m) : dst (RR A f) (gmn A) = dst (fun a => rof A a f) (gmn A) := dst_iff (fun a b _ _ => (rows_iff hn (many_gm hg _) (many_gm hg _)).symm)
/-- what is known of who was dyed -/
def DK (A : AS) (I : mj_I) : Prop := I 65 0 = nI 1 ∧ I 65 1 = nI (gmn A) ∧ I 65 2 = mI (fnd (10 * A.w.n) 0 (gss A.w A.c (A.h, A.m) A.se)) ∧ ∀ f, f < 8 → I 66 (f + 1) = nI (dst (fun a => rof A a f) (gmn A))
section C
variable {I : mj_I} {L : mj_L} {P : mj_P} {Q : mj_Q} {d n r t a b : Nat} {A : AS} {w : WT} {c h c' h' : Nat → Nat} {m : MM} {al : Nat → Nat → Int32}
theorem c_25 (hP : PS t P) (hS : CS A I) (k : ∀ I' L', Eqf (frm [13, 15, 49, 54, 66] [(48, 4), (53, 4), (65, 0), (65, 1), (65, 2)]) I I' → EqL (frm [59] []) L L' → CS A I' → DK A I' → Q (.inl none) (107, I', L', P)) : mj_ev (d + 7) 25 [.ref 65] (107, I, L, P) Q := by
  refine ⟨rfl, ?_⟩
  have hSk := hS
  obtain ⟨hB, ⟨k0, hk0, h48, hG⟩, hK, hU, hZ, hD⟩ := hS
  have hn10 := hB.n10
  show mj_run (mj_ev (d + 6)) k25 Q (k25 0) [some (.ref 65), none] [] (107, I, L, P) 0 0
  rcases hD with hD | ⟨d1, d2, d3, d4⟩
  · have tB : ∀ {I' : mj_I}, Eqf (frm [13, 15, 49, 54, 66] [(48, 4), (53, 4), (65, 0), (65, 1), (65, 2)]) I I' → CB A I' := fun e => hB.fm e (by intro c hc j; simp only [List.mem_cons, List.not_mem_nil, or_false] at hc; rcases hc with rfl | rfl | rfl | rfl | rfl <;> rfl) (by intro q hq; simp only [List.mem_cons, List.not_mem_nil, or_false] at hq; rcases hq with rfl | rfl | rfl | rfl | rfl <;> rfl)
    have L55 : ∀ i, i ≤ A.w.n → ∀ I' L', Eqf (frm [13, 15, 49, 54, 66] [(48, 4), (53, 4), (65, 0), (65, 1), (65, 2)]) I I' → EqL (frm [59] []) L L' → I' 48 4 = nI 8 → I' 65 0 = nI 1 → GV A.w A.c A.h 8 I' → PG A (10 * i) I' L' → mj_run (mj_ev (d + 6)) k25 Q (k25 55) [some (.ref 65), some (.int (nI i))] [] (107, I', L', P) 0 0 := by
      refine loop_up ?_ (fun i hi ih => ?_)
      · intro I' L' e' eL j48 j65 hG' hp
        have hn := (tB e').hn
        have dk : DK A I' := ⟨j65, hp.1, hp.2.1, fun f hf => (hp.2.2 f hf).1.trans (congrArg nI ((nb_len _).trans (rof_dst hn10 hB.cw.gm)))⟩
        refine q_3 rfl ?_
        refine q_5 rfl ?_
        refine q_33 rfl (by decide) (hP _ _ _ rfl) ?_
        refine q_33 rfl (by decide) (hP _ _ _ rfl) ?_
        first | refine q_31E rfl (by decide) hn ?_ | refine q_31 rfl (by decide) ?_
        refine q_geN (by omega) (by omega) (fun hh => ?_) (fun hh => absurd hh (by omega))
        refine q_25 ?_
        exact k I' L' e' eL ⟨tB e', ⟨8, by omega, j48, hG'⟩, hK.fr (e' 51 4 rfl) (funext fun j => e' 52 j rfl), hU.fr (e' 55 1 rfl) (funext fun j => e' 56 j rfl) (funext fun j => e' 57 j rfl) (fun _ _ _ _ => ⟨8, by omega, by omega, j48⟩), hZ.fr (e' 60 1 rfl) (e' 60 2 rfl) (funext fun j => e' 62 j rfl) (funext fun j => e' 63 j rfl), Or.inr dk⟩ dk
      · intro I' L' e' eL j48 j65 hG' hp
        have hn := (tB e').hn
        refine q_3 rfl ?_
        refine q_5 rfl ?_
        refine q_33 rfl (by decide) (hP _ _ _ rfl) ?_
        refine q_33 rfl (by decide) (hP _ _ _ rfl) ?_
        first | refine q_31E rfl (by decide) hn ?_ | refine q_31 rfl (by decide) ?_
        refine q_geN (by omega) (by omega) (fun hh => absurd hh (by omega)) (fun hh => ?_)
        refine q_5 rfl ?_
        refine q_3 rfl ?_
        refine q_47 (mj_ev_mono _) [_] rfl rfl rfl (by decide) rfl rfl rfl ?_
        refine c_26 hP (tB e') j48 hG' hi hp (fun I2 L2 e2 eL2 hG2 hp2 => ?_)
        first | refine q_inc rfl rfl rfl ?_ | refine q_9 rfl rfl rfl ?_
        refine q_23 ?_
        exact ih I2 L2 (e'.tr (e2.to rfl rfl)) (eL.tr eL2) ((e2 48 4 rfl).trans j48) ((e2 65 0 rfl).trans j65) hG2 hp2
    have L25 : ∀ i, i ≤ 9 → ∀ I', Eqf (frm [66] [(65, 0), (65, 1), (65, 2)]) I I' → I' 65 0 = nI 1 → I' 65 1 = nI 0 → I' 65 2 = -(nI 1) → (∀ j, j < i → I' 66 j = nI 0) → mj_run (mj_ev (d + 6)) k25 Q (k25 25) [some (.ref 65), some (.int (nI i))] [] (107, I', L, P) 0 0 := by
      refine loop_up ?_ (fun i hi ih => ?_)
      · intro I' e' f0 f1 f2 z
        have e2 : Eqf (frm [13, 15, 49, 54, 66] [(48, 4), (53, 4), (65, 0), (65, 1), (65, 2)]) I I' := e'.to rfl rfl
        refine q_3 rfl ?_
        refine q_0 ?_
        refine q_gtN (by omega) (by omega) (fun hh => ?_) (fun hh => absurd hh (by omega))
        refine q_5 rfl ?_
        refine q_33 rfl (by decide) (hP _ _ _ rfl) ?_
        refine q_0 ?_
        refine q_47 (mj_ev_mono _) [_] rfl rfl rfl (by decide) rfl rfl rfl ?_
        refine c_32 hP (tB e2).ct (tB e2).cw (by omega) hk0 ((e' 48 4 rfl).trans h48) (fun j hj x y hx hy hxy => (e' 49 _ rfl).trans (hG j hj x y hx hy hxy)) (fun I1 k1 g1 g2 g3 g4 e1 j48 hG1 => ?_)
        have k8 : k1 = 8 := g4 (by omega)
        subst k8
        refine q_0 ?_
        refine q_6 rfl rfl rfl ?_
        exact L55 0 (by omega) I1 L (e2.tr (e1.to rfl rfl)) EqL.rf j48 ((e1 65 0 rfl).trans f0) hG1 ⟨(e1 65 1 rfl).trans f1, (e1 65 2 rfl).trans f2, fun f hf => ⟨(e1 66 _ rfl).trans (z _ (by omega)), Nat.zero_le _, fun i v hv => by cases hv⟩⟩
      · intro I' e' f0 f1 f2 z
        refine q_3 rfl ?_
        refine q_0 ?_
        refine q_gtN (by omega) (by omega) (fun hh => absurd hh (by omega)) (fun hh => ?_)
        refine q_5 rfl ?_
        refine q_33 rfl (by decide) (hP _ _ _ rfl) ?_
        refine q_3 rfl ?_
        refine q_0 ?_
        refine q_42 _ rfl (by decide) rfl (by show _ < 9; omega) (by decide) ?_
        first | refine q_inc rfl rfl rfl ?_ | refine q_9 rfl rfl rfl ?_
        refine q_23 ?_
        refine ih _ (e'.up rfl) f0 f1 f2 (fun j hj => ?_)
        rw [upI_if]
        split
        · rfl
        · exact z j (by omega)
    refine q_5 rfl ?_
    first | refine q_31E rfl (by decide) hD ?_ | refine q_31 rfl (by decide) ?_
    first | refine q_eqN0 (by omega) (fun hh => ?_) (fun hh => absurd hh (by omega)) | refine q_eqI0 (fun hh => ?_) (fun hh => absurd (by omega) hh)
    refine q_5 rfl ?_
    refine q_0 ?_
    refine q_35 rfl (by decide) (by first | exact Or.inl rfl | exact Or.inr rfl | assumption) ?_
    refine q_5 rfl ?_
    refine q_0 ?_
    refine q_34 rfl (by decide) ?_
    refine q_5 rfl ?_
    refine q_1 ?_
    refine q_34 rfl (by decide) ?_
    refine q_0 ?_
    refine q_6 rfl rfl rfl ?_
    exact L25 0 (by omega) _ (((Eqf.rf.up rfl).up rfl).up rfl) rfl rfl rfl (fun j hj => absurd hj (by omega))
  · refine q_5 rfl ?_
    first | refine q_31E rfl (by decide) d1 ?_ | refine q_31 rfl (by decide) ?_
    first | refine q_eqN0 (by omega) (fun hh => absurd hh (by omega)) (fun hh => ?_) | refine q_eqI0 (fun hh => absurd hh (by omega)) (fun hh => ?_)
    refine q_25 ?_
    exact k I L Eqf.rf EqL.rf hSk ⟨d1, d2, d3, d4⟩
theorem c_29 {M : Nat} {f : Nat → Nat → Nat} (hP : PS t P) (hM : I 65 1 = nI M) (hM9 : M ≤ 100) (hD : ∀ k, k < 8 → I 66 (k + 1) = nI (dst (fun a => f a k) M)) (h8 : ∀ k, 8 ≤ k → ∀ a, a < M → f a k = f 0 k) (k : Q (.inl (some (.int (mI (nxtS f M).1)))) (107, I, L, P)) : mj_ev (d + 1) 29 [.ref 65] (107, I, L, P) Q := by
  refine ⟨rfl, ?_⟩
  show mj_run (mj_ev d) k29 Q (k29 0) [some (.ref 65), none, none] [] (107, I, L, P) 0 0
  by_cases h0 : M = 0
  · subst h0
    rw [nxt_0] at k
    refine q_5 rfl ?_
    first | refine q_31E rfl (by decide) hM ?_ | refine q_31 rfl (by decide) ?_
    first | refine q_neN0 (by omega) (fun hh => absurd hh (by omega)) (fun hh => ?_) | refine q_neI0 (fun hh => absurd hh (by omega)) (fun hh => ?_)
    refine q_1 ?_
    refine q_26 ?_
    exact k
  · rw [nxt_8 (by omega) h8] at k
    have dl : ∀ j, dst (fun a => f a j) M ≤ 100 := fun j => Nat.le_trans (cntF_le _ _) hM9
    have L13 : ∀ F, F ≤ 8 → 1 ≤ F → ∀ t, 1 ≤ t → t ≤ 8 → fld 8 F (nxtF f M) (some t, dst (fun a => f a (t - 1)) M) = fld 8 1 (nxtF f M) (some 1, dst (fun a => f a 0) M) → mj_run (mj_ev d) k29 Q (k29 13) [some (.ref 65), some (.int (nI t)), some (.int (nI (F + 1)))] [] (107, I, L, P) 0 0 := by
      refine loop_up ?_ (fun F hF ih => ?_)
      · intro _ t h1 h2 hf
        rw [fld_end (Nat.le_refl _)] at hf
        rw [← hf] at k
        refine q_3 rfl ?_
        refine q_0 ?_
        refine q_gtN (by omega) (by omega) (fun hh => ?_) (fun hh => absurd hh (by omega))
        refine q_3 rfl ?_
        refine q_26 ?_
        exact k
      · intro hF1 t h1 h2 hf
        rw [fld_step hF] at hf
        have v1 := hD F hF
        have v2 : I 66 t = nI (dst (fun a => f a (t - 1)) M) := by
          have := hD (t - 1) (by omega)
          rw [show t - 1 + 1 = t by omega] at this
          exact this
        have b1 := dl F
        have b2 := dl (t - 1)
        by_cases hlt : dst (fun a => f a (t - 1)) M < dst (fun a => f a F) M
        · rw [show nxtF f M (some t, dst (fun a => f a (t - 1)) M) F = (some (F + 1), dst (fun a => f a F) M) from if_pos hlt] at hf
          refine q_3 rfl ?_
          refine q_0 ?_
          refine q_gtN (by omega) (by omega) (fun hh => absurd hh (by omega)) (fun hh => ?_)
          refine q_5 rfl ?_
          refine q_33 rfl (by decide) (hP _ _ _ rfl) ?_
          refine q_3 rfl ?_
          first | refine q_38E _ rfl (by decide) rfl (by show _ < 9; omega) (by decide) (v1) ?_ | refine q_38E _ rfl (by decide) rfl (by show _ < 9; omega) (by decide) (v2) ?_ | refine q_38 _ rfl (by decide) rfl (by show _ < 9; omega) (by decide) ?_
          refine q_5 rfl ?_
          refine q_33 rfl (by decide) (hP _ _ _ rfl) ?_
          refine q_3 rfl ?_
          first | refine q_38E _ rfl (by decide) rfl (by show _ < 9; omega) (by decide) (v1) ?_ | refine q_38E _ rfl (by decide) rfl (by show _ < 9; omega) (by decide) (v2) ?_ | refine q_38 _ rfl (by decide) rfl (by show _ < 9; omega) (by decide) ?_
          refine q_leN (by omega) (by omega) (fun hh => absurd hh (by omega)) (fun hh => ?_)
          refine q_3 rfl ?_
          refine q_6 rfl rfl rfl ?_
          first | refine q_inc rfl rfl rfl ?_ | refine q_9 rfl rfl rfl ?_
          refine q_23 ?_
          exact ih (by omega) (F + 1) (by omega) (by omega) (by rw [Nat.add_sub_cancel]; exact hf)
        · rw [show nxtF f M (some t, dst (fun a => f a (t - 1)) M) F = (some t, dst (fun a => f a (t - 1)) M) from if_neg hlt] at hf
          refine q_3 rfl ?_
          refine q_0 ?_
          refine q_gtN (by omega) (by omega) (fun hh => absurd hh (by omega)) (fun hh => ?_)
          refine q_5 rfl ?_
          refine q_33 rfl (by decide) (hP _ _ _ rfl) ?_
          refine q_3 rfl ?_
          first | refine q_38E _ rfl (by decide) rfl (by show _ < 9; omega) (by decide) (v1) ?_ | refine q_38E _ rfl (by decide) rfl (by show _ < 9; omega) (by decide) (v2) ?_ | refine q_38 _ rfl (by decide) rfl (by show _ < 9; omega) (by decide) ?_
          refine q_5 rfl ?_
          refine q_33 rfl (by decide) (hP _ _ _ rfl) ?_
          refine q_3 rfl ?_
          first | refine q_38E _ rfl (by decide) rfl (by show _ < 9; omega) (by decide) (v1) ?_ | refine q_38E _ rfl (by decide) rfl (by show _ < 9; omega) (by decide) (v2) ?_ | refine q_38 _ rfl (by decide) rfl (by show _ < 9; omega) (by decide) ?_
          refine q_leN (by omega) (by omega) (fun hh => ?_) (fun hh => absurd hh (by omega))
          first | refine q_inc rfl rfl rfl ?_ | refine q_9 rfl rfl rfl ?_
          refine q_23 ?_
          exact ih (by omega) t h1 h2 hf
    refine q_5 rfl ?_
    first | refine q_31E rfl (by decide) hM ?_ | refine q_31 rfl (by decide) ?_
    first | refine q_neN0 (by omega) (fun hh => ?_) (fun hh => absurd hh (by omega)) | refine q_neI0 (fun hh => ?_) (fun hh => absurd (by omega) hh)
    refine q_0 ?_
    refine q_6 rfl rfl rfl ?_
    refine q_0 ?_
    refine q_6 rfl rfl rfl ?_
    exact L13 1 (by omega) (by omega) 1 (by omega) (by omega) rfl
theorem c_30 {M : Nat} {f : Nat → Nat → Nat} (hP : PS t P) (hD : ∀ k, k < 8 → I 66 (k + 1) = nI (dst (fun a => f a k) M)) (h8 : ∀ k, 8 ≤ k → ∀ a, a < M → f a k = f 0 k) (k : Q (.inl (some (.int (nI (nxtS f M).2)))) (107, I, L, P)) : mj_ev (d + 1) 30 [.ref 65, .int (mI (nxtS f M).1)] (107, I, L, P) Q := by
  refine ⟨rfl, ?_⟩
  show mj_run (mj_ev d) k30 Q (k30 0) [some (.ref 65), some (.int (mI (nxtS f M).1))] [] (107, I, L, P) 0 0
  by_cases h0 : M = 0
  · subst h0
    rw [nxt_0] at k ⊢
    refine q_3 rfl ?_
    refine q_0 ?_
    refine q_ltI (fun _ => ?_) (fun z => absurd (by decide) z)
    refine q_0 ?_
    refine q_23 ?_
    refine q_26 ?_
    exact k
  · obtain ⟨t, h1, h2, h3⟩ := nxt_at (f := f) (n := M) (by omega) h8
    rw [h3] at k ⊢
    have v2 : I 66 t = nI (dst (fun a => f a (t - 1)) M) := by
      have := hD (t - 1) (by omega)
      rw [show t - 1 + 1 = t by omega] at this
      exact this
    show mj_run (mj_ev d) k30 Q (k30 0) [some (.ref 65), some (.int (nI t))] [] (107, I, L, P) 0 0
    refine q_3 rfl ?_
    refine q_0 ?_
    refine q_ltN (by omega) (by omega) (fun hh => absurd hh (by omega)) (fun hh => ?_)
    refine q_3 rfl ?_
    refine q_0 ?_
    refine q_leN (by omega) (by omega) (fun hh => ?_) (fun hh => absurd hh (by omega))
    refine q_5 rfl ?_
    refine q_33 rfl (by decide) (hP _ _ _ rfl) ?_
    refine q_3 rfl ?_
    first | refine q_38E _ rfl (by decide) rfl (by show _ < 9; omega) (by decide) (v2) ?_ | refine q_38 _ rfl (by decide) rfl (by show _ < 9; omega) (by decide) ?_
    refine q_26 ?_
    exact k
theorem c_135 {x : Nat} (hP : PS t P) (hS : CS A I) (hx : x ≤ 2) (k : kC Q I L P A (.inl (some (.int (sDyed A x))))) : mj_ev (d + 12) 135 [.ref 0, .int (nI x)] (107, I, L, P) Q := by
  refine ⟨rfl, ?_⟩
  have hn10 := hS.cb.n10
  show mj_run (mj_ev (d + 11)) k135 Q (k135 0) [some (.ref 0), some (.int (nI x))] [] (107, I, L, P) 1 6
  obtain rfl | rfl | rfl : x = 0 ∨ x = 1 ∨ x = 2 := by omega
  · refine q_3 rfl ?_
    refine q_0 ?_
    refine q_48 (mj_ev_mono _) [_, _] rfl rfl rfl rfl rfl ?_
    refine c_150T hx (by omega) ?_
    refine q_3 rfl ?_
    refine q_0 ?_
    refine q_neN (by omega) (by omega) (fun hh => ?_) (fun hh => absurd hh (by omega))
    refine q_5 rfl ?_
    refine q_33 rfl (by decide) (hP _ _ _ rfl) ?_
    refine q_47 (mj_ev_mono _) [] rfl rfl rfl (by decide) rfl rfl rfl ?_
    refine c_25 hP hS (fun I1 L1 e1 eL hS1 hK1 => ?_)
    have v1 := hK1.2.1
    refine q_3 rfl ?_
    first | refine q_neN0 (by omega) (fun hh => absurd hh (by omega)) (fun hh => ?_) | refine q_neI0 (fun hh => absurd hh (by omega)) (fun hh => ?_)
    refine q_5 rfl ?_
    refine q_33 rfl (by decide) (hP _ _ _ rfl) ?_
    first | refine q_31E rfl (by decide) v1 ?_ | refine q_31 rfl (by decide) ?_
    refine q_23 ?_
    refine q_26 ?_
    exact k.fl e1 eL hS1 rfl rfl
  · refine q_3 rfl ?_
    refine q_0 ?_
    refine q_48 (mj_ev_mono _) [_, _] rfl rfl rfl rfl rfl ?_
    refine c_150T hx (by omega) ?_
    refine q_3 rfl ?_
    refine q_0 ?_
    refine q_neN (by omega) (by omega) (fun hh => ?_) (fun hh => absurd hh (by omega))
    refine q_5 rfl ?_
    refine q_33 rfl (by decide) (hP _ _ _ rfl) ?_
    refine q_47 (mj_ev_mono _) [] rfl rfl rfl (by decide) rfl rfl rfl ?_
    refine c_25 hP hS (fun I1 L1 e1 eL hS1 hK1 => ?_)
    have v1 := hK1.2.2.1
    refine q_3 rfl ?_
    first | refine q_neN0 (by omega) (fun hh => ?_) (fun hh => absurd hh (by omega)) | refine q_neI0 (fun hh => ?_) (fun hh => absurd (by omega) hh)
    refine q_5 rfl ?_
    refine q_33 rfl (by decide) (hP _ _ _ rfl) ?_
    first | refine q_31E rfl (by decide) v1 ?_ | refine q_31 rfl (by decide) ?_
    refine q_26 ?_
    exact k.fl e1 eL hS1 rfl rfl
  · refine q_3 rfl ?_
    refine q_0 ?_
    refine q_48 (mj_ev_mono _) [_, _] rfl rfl rfl rfl rfl ?_
    refine c_150T hx (by omega) ?_
    refine q_3 rfl ?_
    refine q_0 ?_
    refine q_neN (by omega) (by omega) (fun hh => absurd hh (by omega)) (fun hh => ?_)
    refine q_5 rfl ?_
    refine q_33 rfl (by decide) (hP _ _ _ rfl) ?_
    refine q_5 rfl ?_
    refine q_0 ?_
    refine q_47 (mj_ev_mono _) [_] rfl rfl rfl (by decide) rfl rfl rfl ?_
    refine c_153 (N := 8) hP hS (by omega) (fun I1 e1 hS1 _ hK1 => ?_)
    refine q_47 (mj_ev_mono _) [_] rfl rfl rfl (by decide) rfl rfl rfl ?_
    refine da_13 (w := A.w) (c := A.c) (h := A.h) (m := A.m) (se := A.se) hP hn10 hS1.cb.sb (hK1 (by omega)) hS1.cb.cw.gm (fun p hp => hS1.cb.cw.h10 hp) ?_
    first | refine q_eqN0 (by omega) (fun hh => ?_) (fun hh => ?_) | refine q_eqI0 (fun hh => ?_) (fun hh => ?_)
    · refine q_0 ?_
      refine q_26 ?_
      first | exact k.fm e1 hS1 rfl rfl | (cases hs : sok A.w A.c (A.h, A.m) A.se with | false => (first | (rw [hs] at hh; exact absurd rfl hh) | exact (by have k' : kC Q I L P A (.inl (some (.int (nI 0)))) := (by rw [show sDyed A 2 = nI 0 from (by unfold sDyed; rw [if_pos rfl, hs]; rfl)] at k; exact k); exact k'.fm e1 hS1 rfl rfl)) | true => (first | (rw [hs] at hh; exact absurd hh (by decide)) | exact (by have k' : kC Q I L P A (.inl (some (.int (nI 1)))) := (by rw [show sDyed A 2 = nI 1 from (by unfold sDyed; rw [if_pos rfl, hs]; rfl)] at k; exact k); exact k'.fm e1 hS1 rfl rfl)))
    · refine q_0 ?_
      refine q_23 ?_
      refine q_26 ?_
      first | exact k.fm e1 hS1 rfl rfl | (cases hs : sok A.w A.c (A.h, A.m) A.se with | false => (first | (rw [hs] at hh; exact absurd rfl hh) | exact (by have k' : kC Q I L P A (.inl (some (.int (nI 0)))) := (by rw [show sDyed A 2 = nI 0 from (by unfold sDyed; rw [if_pos rfl, hs]; rfl)] at k; exact k); exact k'.fm e1 hS1 rfl rfl)) | true => (first | (rw [hs] at hh; exact absurd hh (by decide)) | exact (by have k' : kC Q I L P A (.inl (some (.int (nI 1)))) := (by rw [show sDyed A 2 = nI 1 from (by unfold sDyed; rw [if_pos rfl, hs]; rfl)] at k; exact k); exact k'.fm e1 hS1 rfl rfl)))
theorem gmn_le (hn10 : A.w.n ≤ 10) (hc : ∀ p, p < A.w.n → A.c p < 10) : gmn A ≤ 100 := Nat.le_trans (gss_le (w := A.w) (c := A.c) (s := (A.h, A.m)) (se := A.se) (i := A.w.n) hc) (by omega)
theorem c_136 {x : Nat} (hP : PS t P) (hS : CS A I) (hx : x ≤ 1) (k : kC Q I L P A (.inl (some (.int (if x = 0 then mI (nxtS (rof A) (gmn A)).1 else nI (nxtS (rof A) (gmn A)).2))))) : mj_ev (d + 12) 136 [.ref 0, .int (nI x)] (107, I, L, P) Q := by
  refine ⟨rfl, ?_⟩
  have hn10 := hS.cb.n10
  have h8 := rof_8 (A := A) (fun p hp => hS.cb.cw.h10 hp)
  have hm := gmn_le (A := A) hn10 (fun p hp => hS.cb.cw.c10 hp)
  show mj_run (mj_ev (d + 11)) k136 Q (k136 0) [some (.ref 0), some (.int (nI x))] [] (107, I, L, P) 1 6
  obtain rfl | rfl : x = 0 ∨ x = 1 := by omega
  · refine q_3 rfl ?_
    refine q_0 ?_
    refine q_48 (mj_ev_mono _) [_, _] rfl rfl rfl rfl rfl ?_
    refine c_150T hx (by omega) ?_
    refine q_5 rfl ?_
    refine q_33 rfl (by decide) (hP _ _ _ rfl) ?_
    refine q_47 (mj_ev_mono _) [] rfl rfl rfl (by decide) rfl rfl rfl ?_
    refine c_25 hP hS (fun I1 L1 e1 eL hS1 hK1 => ?_)
    refine q_3 rfl ?_
    first | refine q_neN0 (by omega) (fun hh => absurd hh (by omega)) (fun hh => ?_) | refine q_neI0 (fun hh => absurd hh (by omega)) (fun hh => ?_)
    refine q_5 rfl ?_
    refine q_33 rfl (by decide) (hP _ _ _ rfl) ?_
    refine q_47 (mj_ev_mono _) [] rfl rfl rfl (by decide) rfl rfl rfl ?_
    refine c_29 (f := rof A) hP hK1.2.1 hm hK1.2.2.2 h8 ?_
    refine q_23 ?_
    refine q_26 ?_
    exact k.fl e1 eL hS1 rfl rfl
  · refine q_3 rfl ?_
    refine q_0 ?_
    refine q_48 (mj_ev_mono _) [_, _] rfl rfl rfl rfl rfl ?_
    refine c_150T hx (by omega) ?_
    refine q_5 rfl ?_
    refine q_33 rfl (by decide) (hP _ _ _ rfl) ?_
    refine q_47 (mj_ev_mono _) [] rfl rfl rfl (by decide) rfl rfl rfl ?_
    refine c_25 hP hS (fun I1 L1 e1 eL hS1 hK1 => ?_)
    refine q_3 rfl ?_
    first | refine q_neN0 (by omega) (fun hh => ?_) (fun hh => absurd hh (by omega)) | refine q_neI0 (fun hh => ?_) (fun hh => absurd (by omega) hh)
    refine q_5 rfl ?_
    refine q_33 rfl (by decide) (hP _ _ _ rfl) ?_
    refine q_5 rfl ?_
    refine q_33 rfl (by decide) (hP _ _ _ rfl) ?_
    refine q_47 (mj_ev_mono _) [] rfl rfl rfl (by decide) rfl rfl rfl ?_
    refine c_29 (f := rof A) hP hK1.2.1 hm hK1.2.2.2 h8 ?_
    refine q_47 (mj_ev_mono _) [_] rfl rfl rfl (by decide) rfl rfl rfl ?_
    refine c_30 (f := rof A) hP hK1.2.2.2 h8 ?_
    refine q_26 ?_
    exact k.fl e1 eL hS1 rfl rfl
end C
