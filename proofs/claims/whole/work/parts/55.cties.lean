/-! the class: who may be bound to whom, and what follows -/
def TI (w : WT) (c h : Nat → Nat) (I : mj_I) : Prop := (∀ p, p < w.n → I 56 p = nI (maskF (my w c h p) w.n)) ∧ ∀ a b, a < w.n → b < w.n → a ≠ b → I 57 (10 * a + b) = lik w c h a b
theorem CB.fm {A : AS} {I I' : mj_I} {cs : List Nat} {fs : List (Nat × Nat)} (h : CB A I) (e : Eqf (frm cs fs) I I') (hc : ∀ c ∈ cs, ∀ j, pC c j = false) (hf : ∀ q ∈ fs, pC q.1 q.2 = false) : CB A I' := h.fr e (fun c j _ hp => by
  cases hq : frm cs fs c j with
  | false => rfl
  | true =>
    unfold frm at hq
    rw [Bool.or_eq_true] at hq
    rcases hq with h3 | h3
    · obtain ⟨q, h4, h5⟩ := List.any_eq_true.mp h3
      obtain rfl := eq_of_beq h5
      rw [hc c h4 j] at hp
      cases hp
    · obtain ⟨q, h4, h5⟩ := List.any_eq_true.mp h3
      rw [Bool.and_eq_true] at h5
      obtain rfl := eq_of_beq h5.1
      obtain rfl := eq_of_beq h5.2
      rw [hf q h4] at hp
      cases hp)
theorem CU.fr {A : AS} {I I' : mj_I} (h : CU A I) (e1 : I' 55 1 = I 55 1) (e2 : I' 56 = I 56) (e3 : I' 57 = I 57) (e4 : ∀ k, 1 ≤ k → k ≤ 8 → I 48 4 = nI k → ∃ k', 1 ≤ k' ∧ k' ≤ 8 ∧ I' 48 4 = nI k') : CU A I' := by
  rcases h with h | ⟨h1, ⟨k, k1, k8, hk⟩, h2, h3⟩
  · exact Or.inl (e1.trans h)
  · exact Or.inr ⟨e1.trans h1, e4 k k1 k8 hk, fun p hp => by rw [e2]; exact h2 p hp, fun a b ha hb hab => by rw [e3]; exact h3 a b ha hb hab⟩
theorem CZ.fr {A : AS} {I I' : mj_I} (h : CZ A I) (e1 : I' 60 1 = I 60 1) (e2 : I' 60 2 = I 60 2) (e3 : I' 62 = I 62) (e4 : I' 63 = I 63) : CZ A I' := by
  unfold CZ
  rw [e1, e2, e3, e4]
  exact h
theorem CD.fr {A : AS} {I I' : mj_I} (h : CD A I) (e : ∀ j, I' 65 j = I 65 j) (e2 : I' 66 = I 66) : CD A I' := by
  unfold CD
  rw [e, e, e, e2]
  exact h
theorem CK.fr {A : AS} {I I' : mj_I} (h : CK A I) (e1 : I' 51 4 = I 51 4) (e2 : I' 52 = I 52) : CK A I' := by
  unfold CK
  rw [e1, e2]
  exact h
theorem CO.fr {A : AS} {I I' : mj_I} (h : CO A I) (e1 : I' 48 4 = I 48 4) (e2 : I' 49 = I 49) : CO A I' := by
  unfold CO
  rw [e1, e2]
  exact h
section C
variable {I : mj_I} {L : mj_L} {P : mj_P} {Q : mj_Q} {d n r t a b : Nat} {A : AS} {w : WT} {c h : Nat → Nat} {m : MM} {al : Nat → Nat → Int32}
theorem c_153 {N : Nat} (hP : PS t P) (hS : CS A I) (hN : N < 1000) (k : ∀ I', Eqf (frm [13, 15, 49, 52] [(48, 4), (51, 4)]) I I' → CS A I' → (N ≤ 8 → ∀ j, j ≤ N → ∀ p, p < A.w.n → I' 52 (10 * j + p) = mI ((many A.w A.c (A.h, A.m) j).2 p)) → (8 ≤ N → ∀ j, j ≤ 8 → ∀ p, p < A.w.n → I' 52 (10 * j + p) = mI ((many A.w A.c (A.h, A.m) j).2 p)) → Q (.inl (some (.ref 51))) (107, I', L, P)) : mj_ev (d + 5) 153 [.ref 0, .int (nI N)] (107, I, L, P) Q := by
  refine ⟨rfl, ?_⟩
  obtain ⟨hB, ⟨k0, hk0, h48, hG⟩, hK, hU, hZ, hD⟩ := hS
  show mj_run (mj_ev (d + 4)) k153 Q (k153 0) [some (.ref 0), some (.int (nI N))] [] (107, I, L, P) 0 0
  refine q_5 rfl ?_
  refine q_33 rfl (by decide) (hP _ _ _ rfl) ?_
  refine q_3 rfl ?_
  refine q_47 (mj_ev_mono _) [_] rfl rfl rfl (by decide) rfl rfl rfl ?_
  refine c_32 hP hB.ct hB.cw hN hk0 h48 hG (fun I1 k1 g1 g2 g3 g4 e1 j48 hG1 => ?_)
  refine q_5 rfl ?_
  refine q_33 rfl (by decide) (hP _ _ _ rfl) ?_
  refine q_3 rfl ?_
  refine q_47 (mj_ev_mono _) [_] rfl rfl rfl (by decide) rfl rfl rfl ?_
  refine ca_21 (w := A.w) (c := A.c) (h := A.h) (m := A.m) (k0 := k1) hP ((e1 3 0 rfl).trans hB.hn) (hB.cw.f49 e1) hN hG1 g1 ((Nat.lt_or_ge N 8).elim (fun q => Or.inl (g3 (by omega))) (fun q => Or.inr (g4 q))) (hK.imp (fun q => (e1 51 4 rfl).trans q) (fun ⟨k2, q1, q2, q3⟩ => ⟨k2, q1, (e1 51 4 rfl).trans q2, fun j hj p hp => (e1 52 _ rfl).trans (q3 j hj p hp)⟩)) (fun I2 k2 f1 f2 f3 e2 j51 hK2 => ?_)
  refine q_5 rfl ?_
  refine q_33 rfl (by decide) (hP _ _ _ rfl) ?_
  refine q_29 ?_
  refine k I2 ((e1.to rfl rfl).tr (e2.to rfl rfl)) ⟨?_, ⟨k1, g1, (e2 48 4 rfl).trans j48, fun j hj a b ha hb hab => (e2 49 _ rfl).trans (hG1 j hj a b ha hb hab)⟩, Or.inr ⟨k2, f1, j51, hK2⟩, ?_, ?_, ?_⟩ (fun q j hj p hp => hK2 j (by have := f2 q; omega) p hp) (fun q j hj p hp => hK2 j (by rw [f3 q]; exact hj) p hp)
  · exact hB.fm ((e1.to (cs' := [13, 15, 49, 52]) (fs' := [(48, 4), (51, 4)]) rfl rfl).tr (e2.to rfl rfl)) (by intro c hc j; simp only [List.mem_cons, List.not_mem_nil, or_false] at hc; rcases hc with rfl | rfl | rfl | rfl <;> rfl) (by intro q hq; simp only [List.mem_cons, List.not_mem_nil, or_false] at hq; rcases hq with rfl | rfl <;> rfl)
  · exact hU.fr ((e2 55 1 rfl).trans (e1 55 1 rfl)) (funext fun j => (e2 56 j rfl).trans (e1 56 j rfl)) (funext fun j => (e2 57 j rfl).trans (e1 57 j rfl)) (fun k h1 h8 hk => ⟨k1, by have := (nI_eq (by omega) (by omega)).mp (h48.symm.trans hk); omega, g1, (e2 48 4 rfl).trans j48⟩)
  · exact hZ.fr ((e2 60 1 rfl).trans (e1 60 1 rfl)) ((e2 60 2 rfl).trans (e1 60 2 rfl)) (funext fun j => (e2 62 j rfl).trans (e1 62 j rfl)) (funext fun j => (e2 63 j rfl).trans (e1 63 j rfl))
  · exact hD.fr (fun j => (e2 65 j rfl).trans (e1 65 j rfl)) (funext fun j => (e2 66 j rfl).trans (e1 66 j rfl))
theorem c_71 (hP : PS t P) (hT : TI w c h I) (hn10 : w.n ≤ 10) (ha : a < w.n) (k : Q (.inl (some (.int (nI (maskF (my w c h a) w.n))))) (107, I, L, P)) : mj_ev (d + 1) 71 [.ref 55, .int (nI a)] (107, I, L, P) Q := by
  refine ⟨rfl, ?_⟩
  have v1 := hT.1 a ha
  show mj_run (mj_ev d) k71 Q (k71 0) [some (.ref 55), some (.int (nI a))] [] (107, I, L, P) 0 0
  refine q_5 rfl ?_
  refine q_33 rfl (by decide) (hP _ _ _ rfl) ?_
  refine q_3 rfl ?_
  first | refine q_38E _ rfl (by decide) rfl (by show _ < 10; omega) (by decide) (v1) ?_ | refine q_38 _ rfl (by decide) rfl (by show _ < 10; omega) (by decide) ?_
  refine q_26 ?_
  exact k
/-- whom one would rather have than a mate -/
def rtm (w : WT) (c h : Nat → Nat) (p : Nat) : Option Nat → Nat → Bool
  | none => my w c h p
  | some q => rtb w c h p q
theorem c_72 {o : Option Nat} (hP : PS t P) (hT : TI w c h I) (hn : I 3 0 = nI w.n) (hn10 : w.n ≤ 10) (ha : a < w.n) (ho : ∀ q, o = some q → q < w.n ∧ q ≠ a) (k : Q (.inl (some (.int (nI (maskF (rtm w c h a o) w.n))))) (107, I, L, P)) : mj_ev (d + 1) 72 [.ref 55, .int (nI a), .int (mI o)] (107, I, L, P) Q := by
  refine ⟨rfl, ?_⟩
  have v1 := hT.1 a ha
  show mj_run (mj_ev d) k72 Q (k72 0) [some (.ref 55), some (.int (nI a)), some (.int (mI o)), none, none, none] [] (107, I, L, P) 0 0
  cases o with
  | none =>
    refine q_3 rfl ?_
    refine q_geI0 (fun hh => absurd hh (by decide)) (fun hh => ?_)
    refine q_5 rfl ?_
    refine q_33 rfl (by decide) (hP _ _ _ rfl) ?_
    refine q_3 rfl ?_
    first | refine q_38E _ rfl (by decide) rfl (by show _ < 10; omega) (by decide) (v1) ?_ | refine q_38 _ rfl (by decide) rfl (by show _ < 10; omega) (by decide) ?_
    refine q_26 ?_
    exact k
  | some q =>
    obtain ⟨hq, hqa⟩ := ho q rfl
    have f2 := hT.2 a q ha hq (fun e => hqa e.symm)
    have L22 : ∀ i, i ≤ w.n → mj_run (mj_ev d) k72 Q (k72 22) [some (.ref 55), some (.int (nI a)), some (.int (nI q)), some (.int (nI (maskF (rtb w c h a q) i))), some (.int (nI (a * 10))), some (.int (nI i))] [] (107, I, L, P) 0 0 := by
      refine loop_up ?_ (fun i hi ih => ?_)
      · refine q_3 rfl ?_
        refine q_5 rfl ?_
        refine q_33 rfl (by decide) (hP _ _ _ rfl) ?_
        first | refine q_31E rfl (by decide) hn ?_ | refine q_31 rfl (by decide) ?_
        refine q_geN (by omega) (by omega) (fun hh => ?_) (fun hh => absurd hh (by omega))
        refine q_3 rfl ?_
        refine q_26 ?_
        exact k
      · cases hm : my w c h a i with
        | false =>
          rw [maskF_no (rtb w c h a q) (by unfold rtb; rw [hm]; rfl)] at ih
          refine q_3 rfl ?_
          refine q_5 rfl ?_
          refine q_33 rfl (by decide) (hP _ _ _ rfl) ?_
          first | refine q_31E rfl (by decide) hn ?_ | refine q_31 rfl (by decide) ?_
          refine q_geN (by omega) (by omega) (fun hh => absurd hh (by omega)) (fun hh => ?_)
          refine q_5 rfl ?_
          refine q_33 rfl (by decide) (hP _ _ _ rfl) ?_
          refine q_3 rfl ?_
          first | refine q_38E _ rfl (by decide) rfl (by show _ < 10; omega) (by decide) (v1) ?_ | refine q_38 _ rfl (by decide) rfl (by show _ < 10; omega) (by decide) ?_
          refine q_3 rfl ?_
          first | refine q_bitT (by assumption) (by omega) (by omega) ?_ | refine q_bitF (by assumption) (by omega) (by omega) ?_ | refine q_bit (by omega) (by omega) ?_ | refine q_bitM (by first | omega | assumption) (by omega) ?_
          first | refine q_eqN0 (by omega) (fun hh => ?_) (fun hh => absurd hh (by omega)) | refine q_eqI0 (fun hh => ?_) (fun hh => absurd (by omega) hh)
          first | refine q_inc rfl rfl rfl ?_ | refine q_9 rfl rfl rfl ?_
          refine q_23 ?_
          exact ih
        | true =>
          have hai : a ≠ i := by
            unfold my at hm
            have := of_decide_eq_true hm
            exact this.1
          have f1 := hT.2 a i ha hi hai
          by_cases hlt : lik w c h a q < lik w c h a i
          · have e := mask_acc1 (p := rtb w c h a q) (i := i) (c := True) (by unfold rtb; rw [hm]; simp [hlt])
            rw [if_pos trivial] at e
            refine q_3 rfl ?_
            refine q_5 rfl ?_
            refine q_33 rfl (by decide) (hP _ _ _ rfl) ?_
            first | refine q_31E rfl (by decide) hn ?_ | refine q_31 rfl (by decide) ?_
            refine q_geN (by omega) (by omega) (fun hh => absurd hh (by omega)) (fun hh => ?_)
            refine q_5 rfl ?_
            refine q_33 rfl (by decide) (hP _ _ _ rfl) ?_
            refine q_3 rfl ?_
            first | refine q_38E _ rfl (by decide) rfl (by show _ < 10; omega) (by decide) (v1) ?_ | refine q_38 _ rfl (by decide) rfl (by show _ < 10; omega) (by decide) ?_
            refine q_3 rfl ?_
            first | refine q_bitT (by assumption) (by omega) (by omega) ?_ | refine q_bitF (by assumption) (by omega) (by omega) ?_ | refine q_bit (by omega) (by omega) ?_ | refine q_bitM (by first | omega | assumption) (by omega) ?_
            first | refine q_eqN0 (by omega) (fun hh => absurd hh (by omega)) (fun hh => ?_) | refine q_eqI0 (fun hh => absurd hh (by omega)) (fun hh => ?_)
            refine q_5 rfl ?_
            refine q_33 rfl (by decide) (hP _ _ _ rfl) ?_
            refine q_3 rfl ?_
            refine q_3 rfl ?_
            first | refine q_add ?_ | refine q_11 rfl ?_
            refine q_38E (10 * a + i) rfl (by decide) (congrArg nI (by omega)) (by show _ < 100; omega) (by decide) f1 ?_
            refine q_5 rfl ?_
            refine q_33 rfl (by decide) (hP _ _ _ rfl) ?_
            refine q_3 rfl ?_
            refine q_3 rfl ?_
            first | refine q_add ?_ | refine q_11 rfl ?_
            refine q_38E (10 * a + q) rfl (by decide) (congrArg nI (by omega)) (by show _ < 100; omega) (by decide) f2 ?_
            refine q_leI (fun z => absurd hlt (Int32.not_lt.mpr z)) (fun _ => ?_)
            refine q_3 rfl ?_
            refine q_0 ?_
            refine q_3 rfl ?_
            first | refine q_shl1 (by omega) ?_ | refine q_11 rfl ?_
            first | refine q_orN ?_ | refine q_11 rfl ?_
            refine q_6 rfl rfl rfl ?_
            first | refine q_inc rfl rfl rfl ?_ | refine q_9 rfl rfl rfl ?_
            refine q_23 ?_
            rw [e]
            exact ih
          · rw [maskF_no (rtb w c h a q) (by unfold rtb; rw [hm]; simp [hlt])] at ih
            refine q_3 rfl ?_
            refine q_5 rfl ?_
            refine q_33 rfl (by decide) (hP _ _ _ rfl) ?_
            first | refine q_31E rfl (by decide) hn ?_ | refine q_31 rfl (by decide) ?_
            refine q_geN (by omega) (by omega) (fun hh => absurd hh (by omega)) (fun hh => ?_)
            refine q_5 rfl ?_
            refine q_33 rfl (by decide) (hP _ _ _ rfl) ?_
            refine q_3 rfl ?_
            first | refine q_38E _ rfl (by decide) rfl (by show _ < 10; omega) (by decide) (v1) ?_ | refine q_38 _ rfl (by decide) rfl (by show _ < 10; omega) (by decide) ?_
            refine q_3 rfl ?_
            first | refine q_bitT (by assumption) (by omega) (by omega) ?_ | refine q_bitF (by assumption) (by omega) (by omega) ?_ | refine q_bit (by omega) (by omega) ?_ | refine q_bitM (by first | omega | assumption) (by omega) ?_
            first | refine q_eqN0 (by omega) (fun hh => absurd hh (by omega)) (fun hh => ?_) | refine q_eqI0 (fun hh => absurd hh (by omega)) (fun hh => ?_)
            refine q_5 rfl ?_
            refine q_33 rfl (by decide) (hP _ _ _ rfl) ?_
            refine q_3 rfl ?_
            refine q_3 rfl ?_
            first | refine q_add ?_ | refine q_11 rfl ?_
            refine q_38E (10 * a + i) rfl (by decide) (congrArg nI (by omega)) (by show _ < 100; omega) (by decide) f1 ?_
            refine q_5 rfl ?_
            refine q_33 rfl (by decide) (hP _ _ _ rfl) ?_
            refine q_3 rfl ?_
            refine q_3 rfl ?_
            first | refine q_add ?_ | refine q_11 rfl ?_
            refine q_38E (10 * a + q) rfl (by decide) (congrArg nI (by omega)) (by show _ < 100; omega) (by decide) f2 ?_
            refine q_leI (fun _ => ?_) (fun z => absurd (Int32.not_le.mp z) hlt)
            first | refine q_inc rfl rfl rfl ?_ | refine q_9 rfl rfl rfl ?_
            refine q_23 ?_
            exact ih
    refine q_3 rfl ?_
    first | refine q_geN0 (by omega) ?_ | refine q_geI0 (fun hh => ?_) (fun hh => absurd (by omega) hh)
    refine q_0 ?_
    refine q_6 rfl rfl rfl ?_
    refine q_3 rfl ?_
    refine q_0 ?_
    first | refine q_mul ?_ | refine q_11 rfl ?_
    refine q_6 rfl rfl rfl ?_
    refine q_0 ?_
    refine q_6 rfl rfl rfl ?_
    exact L22 0 (by omega)
theorem c_73 (hP : PS t P) (hT : TI w c h I) (hn : I 3 0 = nI w.n) (hR : CW w.n 32 33 34 c h m I) (ha : a < w.n) (k : Q (.inl (some (.int (nI (maskF (rth w c h m a) w.n))))) (107, I, L, P)) : mj_ev (d + 2) 73 [.ref 55, .int (nI a)] (107, I, L, P) Q := by
  refine ⟨rfl, ?_⟩
  have hn10 := hR.n10
  have v1 := hR.mat ha
  have e : rtm w c h a (m a) = rth w c h m a := by
    cases hm : m a with
    | none => rw [rth_none hm]; rfl
    | some q => rw [rth_some hm]; rfl
  rw [← e] at k
  show mj_run (mj_ev (d + 1)) k73 Q (k73 0) [some (.ref 55), some (.int (nI a))] [] (107, I, L, P) 0 0
  refine q_5 rfl ?_
  refine q_3 rfl ?_
  refine q_5 rfl ?_
  refine q_33 rfl (by decide) (hP _ _ _ rfl) ?_
  refine q_33 rfl (by decide) (hP _ _ _ rfl) ?_
  refine q_3 rfl ?_
  first | refine q_38E _ rfl (by decide) rfl (by show _ < 10; omega) (by decide) (v1) ?_ | refine q_38 _ rfl (by decide) rfl (by show _ < 10; omega) (by decide) ?_
  refine q_47 (mj_ev_mono _) [_, _] rfl rfl rfl (by decide) rfl rfl rfl ?_
  refine c_72 hP hT hn hn10 ha (fun q hq => ⟨(hR.gm a ha q hq).1, (hR.gm a ha q hq).2.1⟩) ?_
  refine q_26 ?_
  exact k
theorem c_74 (hP : PS t P) (hT : TI w c h I) (hn : I 3 0 = nI w.n) (hn10 : w.n ≤ 10) (k : Q (.inl (some (.int (nI (sumN (fun p => cntF (my w c h p) w.n) w.n / 2))))) (107, I, L, P)) : mj_ev (d + 2) 74 [.ref 55] (107, I, L, P) Q := by
  refine ⟨rfl, ?_⟩
  have L4 : ∀ i, i ≤ w.n → mj_run (mj_ev (d + 1)) k74 Q (k74 4) [some (.ref 55), some (.int (nI (sumN (fun p => cntF (my w c h p) w.n) i))), some (.int (nI i))] [] (107, I, L, P) 0 0 := by
    refine loop_up ?_ (fun i hi ih => ?_)
    · have hs : sumN (fun p => cntF (my w c h p) w.n) w.n ≤ w.n * 10 := sumN_le (fun i _ => Nat.le_trans (cntF_le _ _) hn10)
      refine q_3 rfl ?_
      refine q_5 rfl ?_
      refine q_33 rfl (by decide) (hP _ _ _ rfl) ?_
      first | refine q_31E rfl (by decide) hn ?_ | refine q_31 rfl (by decide) ?_
      refine q_geN (by omega) (by omega) (fun hh => ?_) (fun hh => absurd hh (by omega))
      refine q_3 rfl ?_
      refine q_0 ?_
      first | refine q_divN (by omega) (by omega) (by omega) ?_ | refine q_div (by assumption) ?_
      refine q_26 ?_
      exact k
    · refine q_3 rfl ?_
      refine q_5 rfl ?_
      refine q_33 rfl (by decide) (hP _ _ _ rfl) ?_
      first | refine q_31E rfl (by decide) hn ?_ | refine q_31 rfl (by decide) ?_
      refine q_geN (by omega) (by omega) (fun hh => absurd hh (by omega)) (fun hh => ?_)
      refine q_3 rfl ?_
      refine q_5 rfl ?_
      refine q_3 rfl ?_
      refine q_47 (mj_ev_mono _) [_] rfl rfl rfl (by decide) rfl rfl rfl ?_
      refine c_71 hP hT hn10 hi ?_
      refine q_48 (mj_ev_mono _) [_] rfl rfl rfl rfl rfl ?_
      refine c_282 hn10 ?_
      first | refine q_add ?_ | refine q_11 rfl ?_
      refine q_6 rfl rfl rfl ?_
      first | refine q_inc rfl rfl rfl ?_ | refine q_9 rfl rfl rfl ?_
      refine q_23 ?_
      exact ih
  show mj_run (mj_ev (d + 1)) k74 Q (k74 0) [some (.ref 55), none, none] [] (107, I, L, P) 0 0
  refine q_0 ?_
  refine q_6 rfl rfl rfl ?_
  refine q_0 ?_
  refine q_6 rfl rfl rfl ?_
  exact L4 0 (by omega)
theorem c_75 (hP : PS t P) (hT : TI w c h I) (hn : I 3 0 = nI w.n) (hn10 : w.n ≤ 10) (k : Q (.inl (some (.int (nI (maskF (fun p => decide (maskF (my w c h p) w.n = 0)) w.n))))) (107, I, L, P)) : mj_ev (d + 2) 75 [.ref 55] (107, I, L, P) Q := by
  refine ⟨rfl, ?_⟩
  have L4 : ∀ i, i ≤ w.n → mj_run (mj_ev (d + 1)) k75 Q (k75 4) [some (.ref 55), some (.int (nI (maskF (fun p => decide (maskF (my w c h p) w.n = 0)) i))), some (.int (nI i))] [] (107, I, L, P) 0 0 := by
    refine loop_up ?_ (fun i hi ih => ?_)
    · refine q_3 rfl ?_
      refine q_5 rfl ?_
      refine q_33 rfl (by decide) (hP _ _ _ rfl) ?_
      first | refine q_31E rfl (by decide) hn ?_ | refine q_31 rfl (by decide) ?_
      refine q_geN (by omega) (by omega) (fun hh => ?_) (fun hh => absurd hh (by omega))
      refine q_3 rfl ?_
      refine q_26 ?_
      exact k
    · have ml := mask_lt31 (my w c h i) hn10
      refine q_3 rfl ?_
      refine q_5 rfl ?_
      refine q_33 rfl (by decide) (hP _ _ _ rfl) ?_
      first | refine q_31E rfl (by decide) hn ?_ | refine q_31 rfl (by decide) ?_
      refine q_geN (by omega) (by omega) (fun hh => absurd hh (by omega)) (fun hh => ?_)
      refine q_5 rfl ?_
      refine q_3 rfl ?_
      refine q_47 (mj_ev_mono _) [_] rfl rfl rfl (by decide) rfl rfl rfl ?_
      refine c_71 hP hT hn10 hi ?_
      refine q_neN0 ml (fun h1 => ?_) (fun h1 => ?_)
      · first | refine q_inc rfl rfl rfl ?_ | refine q_9 rfl rfl rfl ?_
        refine q_23 ?_
        first | (rw [maskF_no (fun p => decide (maskF (my w c h p) w.n = 0)) (decide_eq_false h1)] at ih; exact ih) | (have e := mask_acc1 (p := fun p => decide (maskF (my w c h p) w.n = 0)) (i := i) (c := True) (by simp [h1]); rw [if_pos trivial] at e; rw [e]; exact ih)
      · refine q_3 rfl ?_
        refine q_0 ?_
        refine q_3 rfl ?_
        first | refine q_shl1 (by omega) ?_ | refine q_11 rfl ?_
        first | refine q_orN ?_ | refine q_11 rfl ?_
        refine q_6 rfl rfl rfl ?_
        first | refine q_inc rfl rfl rfl ?_ | refine q_9 rfl rfl rfl ?_
        refine q_23 ?_
        first | (rw [maskF_no (fun p => decide (maskF (my w c h p) w.n = 0)) (decide_eq_false h1)] at ih; exact ih) | (have e := mask_acc1 (p := fun p => decide (maskF (my w c h p) w.n = 0)) (i := i) (c := True) (by simp [h1]); rw [if_pos trivial] at e; rw [e]; exact ih)
  show mj_run (mj_ev (d + 1)) k75 Q (k75 0) [some (.ref 55), none, none] [] (107, I, L, P) 0 0
  refine q_0 ?_
  refine q_6 rfl rfl rfl ?_
  refine q_0 ?_
  refine q_6 rfl rfl rfl ?_
  exact L4 0 (by omega)
theorem c_78 (hP : PS t P) (hT : TI w c h I) (hn : I 3 0 = nI w.n) (hR : CW w.n 32 33 34 c h m I) (ha : a < w.n) (k : Q (.inl (some (.int (nI (if tmp w c h m a then 1 else 0))))) (107, I, L, P)) : mj_ev (d + 3) 78 [.ref 55, .int (nI a)] (107, I, L, P) Q := by
  refine ⟨rfl, ?_⟩
  have hn10 := hR.n10
  have L8 : ∀ i, i ≤ w.n → fnd w.n i (fun q => rth w c h m a q && rth w c h m q a) = fnd w.n 0 (fun q => rth w c h m a q && rth w c h m q a) → mj_run (mj_ev (d + 2)) k78 Q (k78 8) [some (.ref 55), some (.int (nI a)), some (.int (nI (maskF (rth w c h m a) w.n))), some (.int (nI i))] [] (107, I, L, P) 0 0 := by
    refine loop_up ?_ (fun i hi ih => ?_)
    · intro hf
      rw [fnd_end (Nat.le_refl _)] at hf
      refine q_3 rfl ?_
      refine q_5 rfl ?_
      refine q_33 rfl (by decide) (hP _ _ _ rfl) ?_
      first | refine q_31E rfl (by decide) hn ?_ | refine q_31 rfl (by decide) ?_
      refine q_geN (by omega) (by omega) (fun hh => ?_) (fun hh => absurd hh (by omega))
      refine q_0 ?_
      refine q_27 (by first | exact Or.inl rfl | exact Or.inr rfl | assumption | (split <;> first | exact Or.inl rfl | exact Or.inr rfl)) ?_
      exact kQ k (by unfold tmp; rw [← hf]; rfl)
    · intro hf
      cases hq : rth w c h m a i with
      | false =>
        rw [fnd_no hi (by simp [hq])] at hf
        refine q_3 rfl ?_
        refine q_5 rfl ?_
        refine q_33 rfl (by decide) (hP _ _ _ rfl) ?_
        first | refine q_31E rfl (by decide) hn ?_ | refine q_31 rfl (by decide) ?_
        refine q_geN (by omega) (by omega) (fun hh => absurd hh (by omega)) (fun hh => ?_)
        refine q_3 rfl ?_
        refine q_3 rfl ?_
        first | refine q_bitT (by assumption) (by omega) (by omega) ?_ | refine q_bitF (by assumption) (by omega) (by omega) ?_ | refine q_bit (by omega) (by omega) ?_ | refine q_bitM (by first | omega | assumption) (by omega) ?_
        first | refine q_eqN0 (by omega) (fun hh => ?_) (fun hh => absurd hh (by omega)) | refine q_eqI0 (fun hh => ?_) (fun hh => absurd (by omega) hh)
        first | refine q_inc rfl rfl rfl ?_ | refine q_9 rfl rfl rfl ?_
        refine q_23 ?_
        exact ih hf
      | true =>
        cases hr : rth w c h m i a with
        | false =>
          rw [fnd_no hi (by simp [hr])] at hf
          refine q_3 rfl ?_
          refine q_5 rfl ?_
          refine q_33 rfl (by decide) (hP _ _ _ rfl) ?_
          first | refine q_31E rfl (by decide) hn ?_ | refine q_31 rfl (by decide) ?_
          refine q_geN (by omega) (by omega) (fun hh => absurd hh (by omega)) (fun hh => ?_)
          refine q_3 rfl ?_
          refine q_3 rfl ?_
          first | refine q_bitT (by assumption) (by omega) (by omega) ?_ | refine q_bitF (by assumption) (by omega) (by omega) ?_ | refine q_bit (by omega) (by omega) ?_ | refine q_bitM (by first | omega | assumption) (by omega) ?_
          first | refine q_eqN0 (by omega) (fun hh => absurd hh (by omega)) (fun hh => ?_) | refine q_eqI0 (fun hh => absurd hh (by omega)) (fun hh => ?_)
          refine q_5 rfl ?_
          refine q_3 rfl ?_
          refine q_47 (mj_ev_mono _) [_] rfl rfl rfl (by decide) rfl rfl rfl ?_
          refine c_73 hP hT hn hR hi ?_
          refine q_3 rfl ?_
          first | refine q_bitT (by assumption) (by omega) (by omega) ?_ | refine q_bitF (by assumption) (by omega) (by omega) ?_ | refine q_bit (by omega) (by omega) ?_ | refine q_bitM (by first | omega | assumption) (by omega) ?_
          first | refine q_eqN0 (by omega) (fun hh => ?_) (fun hh => absurd hh (by omega)) | refine q_eqI0 (fun hh => ?_) (fun hh => absurd (by omega) hh)
          first | refine q_inc rfl rfl rfl ?_ | refine q_9 rfl rfl rfl ?_
          refine q_23 ?_
          exact ih hf
        | true =>
          rw [fnd_yes hi (by simp [hq, hr])] at hf
          refine q_3 rfl ?_
          refine q_5 rfl ?_
          refine q_33 rfl (by decide) (hP _ _ _ rfl) ?_
          first | refine q_31E rfl (by decide) hn ?_ | refine q_31 rfl (by decide) ?_
          refine q_geN (by omega) (by omega) (fun hh => absurd hh (by omega)) (fun hh => ?_)
          refine q_3 rfl ?_
          refine q_3 rfl ?_
          first | refine q_bitT (by assumption) (by omega) (by omega) ?_ | refine q_bitF (by assumption) (by omega) (by omega) ?_ | refine q_bit (by omega) (by omega) ?_ | refine q_bitM (by first | omega | assumption) (by omega) ?_
          first | refine q_eqN0 (by omega) (fun hh => absurd hh (by omega)) (fun hh => ?_) | refine q_eqI0 (fun hh => absurd hh (by omega)) (fun hh => ?_)
          refine q_5 rfl ?_
          refine q_3 rfl ?_
          refine q_47 (mj_ev_mono _) [_] rfl rfl rfl (by decide) rfl rfl rfl ?_
          refine c_73 hP hT hn hR hi ?_
          refine q_3 rfl ?_
          first | refine q_bitT (by assumption) (by omega) (by omega) ?_ | refine q_bitF (by assumption) (by omega) (by omega) ?_ | refine q_bit (by omega) (by omega) ?_ | refine q_bitM (by first | omega | assumption) (by omega) ?_
          first | refine q_eqN0 (by omega) (fun hh => absurd hh (by omega)) (fun hh => ?_) | refine q_eqI0 (fun hh => absurd hh (by omega)) (fun hh => ?_)
          refine q_0 ?_
          refine q_27 (by first | exact Or.inl rfl | exact Or.inr rfl | assumption | (split <;> first | exact Or.inl rfl | exact Or.inr rfl)) ?_
          exact kQ k (by unfold tmp; rw [← hf]; rfl)
  show mj_run (mj_ev (d + 2)) k78 Q (k78 0) [some (.ref 55), some (.int (nI a)), none, none] [] (107, I, L, P) 0 0
  refine q_5 rfl ?_
  refine q_3 rfl ?_
  refine q_47 (mj_ev_mono _) [_] rfl rfl rfl (by decide) rfl rfl rfl ?_
  refine c_73 hP hT hn hR ha ?_
  refine q_6 rfl rfl rfl ?_
  refine q_0 ?_
  refine q_6 rfl rfl rfl ?_
  exact L8 0 (by omega) rfl
theorem c_77 (hP : PS t P) (hT : TI w c h I) (hn : I 3 0 = nI w.n) (hR : CW w.n 32 33 34 c h m I) (k : Q (.inl (some (.int (nI (cntF (fai w c h m) w.n))))) (107, I, L, P)) : mj_ev (d + 4) 77 [.ref 55] (107, I, L, P) Q := by
  refine ⟨rfl, ?_⟩
  have hn10 := hR.n10
  have L4 : ∀ i, i ≤ w.n → ∀ x3, mj_run (mj_ev (d + 3)) k77 Q (k77 4) [some (.ref 55), some (.int (nI (cntF (fai w c h m) i))), some (.int (nI i)), x3] [] (107, I, L, P) 0 0 := by
    refine loop_up ?_ (fun i hi ih => ?_)
    · intro x3
      refine q_3 rfl ?_
      refine q_5 rfl ?_
      refine q_33 rfl (by decide) (hP _ _ _ rfl) ?_
      first | refine q_31E rfl (by decide) hn ?_ | refine q_31 rfl (by decide) ?_
      refine q_geN (by omega) (by omega) (fun hh => ?_) (fun hh => absurd hh (by omega))
      refine q_3 rfl ?_
      refine q_26 ?_
      exact k
    · intro x3
      have r3 := hR.mat hi
      have eT : ∀ {b : Bool}, fai w c h m i = b → cntF (fai w c h m) (i + 1) = cntF (fai w c h m) i + (if b then 1 else 0) := fun q => by rw [← q]; rfl
      cases hm : m i with
      | none =>
        rw [hm] at r3
        have r3' : I 34 i = -(nI 1) := r3
        rw [eT (b := false) (by unfold fai; rw [hm])] at ih
        refine q_3 rfl ?_
        refine q_5 rfl ?_
        refine q_33 rfl (by decide) (hP _ _ _ rfl) ?_
        first | refine q_31E rfl (by decide) hn ?_ | refine q_31 rfl (by decide) ?_
        refine q_geN (by omega) (by omega) (fun hh => absurd hh (by omega)) (fun hh => ?_)
        refine q_5 rfl ?_
        refine q_33 rfl (by decide) (hP _ _ _ rfl) ?_
        refine q_33 rfl (by decide) (hP _ _ _ rfl) ?_
        refine q_3 rfl ?_
        first | refine q_38E _ rfl (by decide) rfl (by show _ < 10; omega) (by decide) (r3') ?_ | refine q_38 _ rfl (by decide) rfl (by show _ < 10; omega) (by decide) ?_
        refine q_6 rfl rfl rfl ?_
        refine q_3 rfl ?_
        refine q_3 rfl ?_
        refine q_leI (fun _ => ?_) (fun q => absurd (Int32.le_of_lt (Int32.lt_of_lt_of_le (by decide) (nI_pos' (n := i) (by omega)))) q)
        first | refine q_inc rfl rfl rfl ?_ | refine q_9 rfl rfl rfl ?_
        refine q_23 ?_
        exact ih _
      | some q =>
        rw [hm] at r3
        have r3' : I 34 i = nI q := r3
        have hq := (hR.gm i hi q hm).1
        by_cases hlt : i < q
        · cases t1 : tmp w c h m i with
          | true =>
            rw [eT (b := false) (by unfold fai; rw [hm]; simp [t1])] at ih
            refine q_3 rfl ?_
            refine q_5 rfl ?_
            refine q_33 rfl (by decide) (hP _ _ _ rfl) ?_
            first | refine q_31E rfl (by decide) hn ?_ | refine q_31 rfl (by decide) ?_
            refine q_geN (by omega) (by omega) (fun hh => absurd hh (by omega)) (fun hh => ?_)
            refine q_5 rfl ?_
            refine q_33 rfl (by decide) (hP _ _ _ rfl) ?_
            refine q_33 rfl (by decide) (hP _ _ _ rfl) ?_
            refine q_3 rfl ?_
            first | refine q_38E _ rfl (by decide) rfl (by show _ < 10; omega) (by decide) (r3') ?_ | refine q_38 _ rfl (by decide) rfl (by show _ < 10; omega) (by decide) ?_
            refine q_6 rfl rfl rfl ?_
            refine q_3 rfl ?_
            refine q_3 rfl ?_
            refine q_leN (by omega) (by omega) (fun hh => absurd hh (by omega)) (fun hh => ?_)
            refine q_5 rfl ?_
            refine q_3 rfl ?_
            refine q_47 (mj_ev_mono _) [_] rfl rfl rfl (by decide) rfl rfl rfl ?_
            refine c_78 hP hT hn hR hi ?_
            rw [t1]
            first | refine q_neN0 (by omega) (fun hh => ?_) (fun hh => absurd hh (by omega)) | refine q_neI0 (fun hh => ?_) (fun hh => absurd (by decide) hh)
            first | refine q_inc rfl rfl rfl ?_ | refine q_9 rfl rfl rfl ?_
            refine q_23 ?_
            exact ih _
          | false =>
            cases t2 : tmp w c h m q with
            | true =>
              rw [eT (b := false) (by unfold fai; rw [hm]; simp [t2])] at ih
              refine q_3 rfl ?_
              refine q_5 rfl ?_
              refine q_33 rfl (by decide) (hP _ _ _ rfl) ?_
              first | refine q_31E rfl (by decide) hn ?_ | refine q_31 rfl (by decide) ?_
              refine q_geN (by omega) (by omega) (fun hh => absurd hh (by omega)) (fun hh => ?_)
              refine q_5 rfl ?_
              refine q_33 rfl (by decide) (hP _ _ _ rfl) ?_
              refine q_33 rfl (by decide) (hP _ _ _ rfl) ?_
              refine q_3 rfl ?_
              first | refine q_38E _ rfl (by decide) rfl (by show _ < 10; omega) (by decide) (r3') ?_ | refine q_38 _ rfl (by decide) rfl (by show _ < 10; omega) (by decide) ?_
              refine q_6 rfl rfl rfl ?_
              refine q_3 rfl ?_
              refine q_3 rfl ?_
              refine q_leN (by omega) (by omega) (fun hh => absurd hh (by omega)) (fun hh => ?_)
              refine q_5 rfl ?_
              refine q_3 rfl ?_
              refine q_47 (mj_ev_mono _) [_] rfl rfl rfl (by decide) rfl rfl rfl ?_
              refine c_78 hP hT hn hR hi ?_
              rw [t1]
              first | refine q_neN0 (by omega) (fun hh => absurd hh (by omega)) (fun hh => ?_) | refine q_neI0 (fun hh => absurd hh (by decide)) (fun hh => ?_)
              refine q_5 rfl ?_
              refine q_3 rfl ?_
              refine q_47 (mj_ev_mono _) [_] rfl rfl rfl (by decide) rfl rfl rfl ?_
              refine c_78 hP hT hn hR hq ?_
              rw [t2]
              first | refine q_neN0 (by omega) (fun hh => ?_) (fun hh => absurd hh (by omega)) | refine q_neI0 (fun hh => ?_) (fun hh => absurd (by decide) hh)
              first | refine q_inc rfl rfl rfl ?_ | refine q_9 rfl rfl rfl ?_
              refine q_23 ?_
              exact ih _
            | false =>
              rw [eT (b := true) (by unfold fai; rw [hm]; simp [t1, t2, hlt])] at ih
              refine q_3 rfl ?_
              refine q_5 rfl ?_
              refine q_33 rfl (by decide) (hP _ _ _ rfl) ?_
              first | refine q_31E rfl (by decide) hn ?_ | refine q_31 rfl (by decide) ?_
              refine q_geN (by omega) (by omega) (fun hh => absurd hh (by omega)) (fun hh => ?_)
              refine q_5 rfl ?_
              refine q_33 rfl (by decide) (hP _ _ _ rfl) ?_
              refine q_33 rfl (by decide) (hP _ _ _ rfl) ?_
              refine q_3 rfl ?_
              first | refine q_38E _ rfl (by decide) rfl (by show _ < 10; omega) (by decide) (r3') ?_ | refine q_38 _ rfl (by decide) rfl (by show _ < 10; omega) (by decide) ?_
              refine q_6 rfl rfl rfl ?_
              refine q_3 rfl ?_
              refine q_3 rfl ?_
              refine q_leN (by omega) (by omega) (fun hh => absurd hh (by omega)) (fun hh => ?_)
              refine q_5 rfl ?_
              refine q_3 rfl ?_
              refine q_47 (mj_ev_mono _) [_] rfl rfl rfl (by decide) rfl rfl rfl ?_
              refine c_78 hP hT hn hR hi ?_
              rw [t1]
              first | refine q_neN0 (by omega) (fun hh => absurd hh (by omega)) (fun hh => ?_) | refine q_neI0 (fun hh => absurd hh (by decide)) (fun hh => ?_)
              refine q_5 rfl ?_
              refine q_3 rfl ?_
              refine q_47 (mj_ev_mono _) [_] rfl rfl rfl (by decide) rfl rfl rfl ?_
              refine c_78 hP hT hn hR hq ?_
              rw [t2]
              first | refine q_neN0 (by omega) (fun hh => absurd hh (by omega)) (fun hh => ?_) | refine q_neI0 (fun hh => absurd hh (by decide)) (fun hh => ?_)
              first | refine q_inc rfl rfl rfl ?_ | refine q_9 rfl rfl rfl ?_
              first | refine q_inc rfl rfl rfl ?_ | refine q_9 rfl rfl rfl ?_
              refine q_23 ?_
              exact ih _
        · rw [eT (b := false) (by unfold fai; rw [hm]; simp [hlt])] at ih
          refine q_3 rfl ?_
          refine q_5 rfl ?_
          refine q_33 rfl (by decide) (hP _ _ _ rfl) ?_
          first | refine q_31E rfl (by decide) hn ?_ | refine q_31 rfl (by decide) ?_
          refine q_geN (by omega) (by omega) (fun hh => absurd hh (by omega)) (fun hh => ?_)
          refine q_5 rfl ?_
          refine q_33 rfl (by decide) (hP _ _ _ rfl) ?_
          refine q_33 rfl (by decide) (hP _ _ _ rfl) ?_
          refine q_3 rfl ?_
          first | refine q_38E _ rfl (by decide) rfl (by show _ < 10; omega) (by decide) (r3') ?_ | refine q_38 _ rfl (by decide) rfl (by show _ < 10; omega) (by decide) ?_
          refine q_6 rfl rfl rfl ?_
          refine q_3 rfl ?_
          refine q_3 rfl ?_
          refine q_leN (by omega) (by omega) (fun hh => ?_) (fun hh => absurd hh (by omega))
          first | refine q_inc rfl rfl rfl ?_ | refine q_9 rfl rfl rfl ?_
          refine q_23 ?_
          exact ih _
  show mj_run (mj_ev (d + 3)) k77 Q (k77 0) [some (.ref 55), none, none, none] [] (107, I, L, P) 0 0
  refine q_0 ?_
  refine q_6 rfl rfl rfl ?_
  refine q_0 ?_
  refine q_6 rfl rfl rfl ?_
  exact L4 0 (by omega) _
theorem c_76 (hP : PS t P) (hn : I 3 0 = nI n) (hn10 : n ≤ 10) (hG : ∀ a b, a < n → b < n → a ≠ b → I 49 (10 * a + b) = al a b) (k : Q (.inl (some (.int (bI (cls n al).1)))) (107, I, L, P)) : mj_ev (d + 1) 76 [.ref 55] (107, I, L, P) Q := by
  refine ⟨rfl, ?_⟩
  have ok : ∀ (x : Option (Nat × Nat)), (∀ q, x = some q → q.1 < 10 ∧ q.2 < 10) → (bI x = -(nI 1) ↔ x = none) := by
    intro x hx
    cases x with
    | none => exact ⟨fun _ => rfl, fun _ => rfl⟩
    | some q =>
      have := hx q rfl
      exact ⟨fun e => absurd e (mI_ne (by omega)), fun e => by cases e⟩
  have L6 : ∀ a, a ≤ n → ∀ (acc : Option (Nat × Nat) × Int32) (x4 x5 : Option Value), (∀ q, acc.1 = some q → q.1 < 10 ∧ q.2 < 10) → fld n a (fun acc a => fld n (a + 1) (clsF al a) acc) acc = cls n al → mj_run (mj_ev d) k76 Q (k76 6) [some (.ref 55), some (.int (bI acc.1)), some (.int acc.2), some (.int (nI a)), x4, x5] [] (107, I, L, P) 0 0 := by
    refine loop_up ?_ (fun a ha ih => ?_)
    · intro acc x4 x5 hq hf
      rw [fld_end (Nat.le_refl _)] at hf
      subst hf
      refine q_3 rfl ?_
      refine q_5 rfl ?_
      refine q_33 rfl (by decide) (hP _ _ _ rfl) ?_
      first | refine q_31E rfl (by decide) hn ?_ | refine q_31 rfl (by decide) ?_
      refine q_geN (by omega) (by omega) (fun hh => ?_) (fun hh => absurd hh (by omega))
      refine q_3 rfl ?_
      refine q_26 ?_
      exact k
    · have L22 : ∀ b, b ≤ n → a + 1 ≤ b → ∀ (acc : Option (Nat × Nat) × Int32) (x5 : Option Value), (∀ q, acc.1 = some q → q.1 < 10 ∧ q.2 < 10) → fld n (a + 1) (fun acc a => fld n (a + 1) (clsF al a) acc) (fld n b (clsF al a) acc) = cls n al → mj_run (mj_ev d) k76 Q (k76 22) [some (.ref 55), some (.int (bI acc.1)), some (.int acc.2), some (.int (nI a)), some (.int (nI b)), x5] [] (107, I, L, P) 0 0 := by
        refine loop_up ?_ (fun b hb ih2 => ?_)
        · intro _ acc x5 hq hf
          rw [fld_end (Nat.le_refl _)] at hf
          refine q_3 rfl ?_
          refine q_5 rfl ?_
          refine q_33 rfl (by decide) (hP _ _ _ rfl) ?_
          first | refine q_31E rfl (by decide) hn ?_ | refine q_31 rfl (by decide) ?_
          refine q_geN (by omega) (by omega) (fun hh => ?_) (fun hh => absurd hh (by omega))
          first | refine q_inc rfl rfl rfl ?_ | refine q_9 rfl rfl rfl ?_
          refine q_23 ?_
          exact ih acc _ _ hq hf
        · intro hab acc x5 hq hf
          rw [fld_step hb] at hf
          have g1 := hG a b ha hb (by omega)
          have yes : (acc.1 = none ∨ acc.2 < al a b) → clsF al a acc b = (some (a, b), al a b) := fun q => if_pos q
          have no : ¬ (acc.1 = none ∨ acc.2 < al a b) → clsF al a acc b = acc := fun q => if_neg q
          refine q_3 rfl ?_
          refine q_5 rfl ?_
          refine q_33 rfl (by decide) (hP _ _ _ rfl) ?_
          first | refine q_31E rfl (by decide) hn ?_ | refine q_31 rfl (by decide) ?_
          refine q_geN (by omega) (by omega) (fun hh => absurd hh (by omega)) (fun hh => ?_)
          refine q_5 rfl ?_
          refine q_33 rfl (by decide) (hP _ _ _ rfl) ?_
          refine q_33 rfl (by decide) (hP _ _ _ rfl) ?_
          refine q_3 rfl ?_
          refine q_0 ?_
          first | refine q_mul ?_ | refine q_11 rfl ?_
          refine q_3 rfl ?_
          first | refine q_add ?_ | refine q_11 rfl ?_
          refine q_38E (10 * a + b) rfl (by decide) (congrArg nI (by omega)) (by show _ < 800; omega) (by decide) g1 ?_
          refine q_6 rfl rfl rfl ?_
          refine q_3 rfl ?_
          refine q_1 ?_
          refine q_eqI (fun h1 => ?_) (fun h1 => ?_)
          · refine q_0 ?_
            refine q_3 rfl ?_
            first | refine q_mul ?_ | refine q_11 rfl ?_
            refine q_3 rfl ?_
            first | refine q_add ?_ | refine q_11 rfl ?_
            refine q_6 rfl rfl rfl ?_
            refine q_3 rfl ?_
            refine q_6 rfl rfl rfl ?_
            first | refine q_inc rfl rfl rfl ?_ | refine q_9 rfl rfl rfl ?_
            refine q_23 ?_
            first | (rw [yes (Or.inl ((ok _ hq).mp h1))] at hf; exact ih2 (by omega) (some (a, b), al a b) _ (fun q e => by cases e; exact ⟨by show a < 10; omega, by show b < 10; omega⟩) hf) | (rw [no (fun q => q.elim (fun q => h1 ((ok _ hq).mpr q)) (fun q => absurd q (Int32.not_lt.mpr h2)))] at hf; exact ih2 (by omega) acc _ hq hf) | (rw [yes (Or.inr (Int32.not_le.mp h2))] at hf; exact ih2 (by omega) (some (a, b), al a b) _ (fun q e => by cases e; exact ⟨by show a < 10; omega, by show b < 10; omega⟩) hf)
          · refine q_3 rfl ?_
            refine q_3 rfl ?_
            refine q_leI (fun h2 => ?_) (fun h2 => ?_)
            · first | refine q_inc rfl rfl rfl ?_ | refine q_9 rfl rfl rfl ?_
              refine q_23 ?_
              first | (rw [yes (Or.inl ((ok _ hq).mp h1))] at hf; exact ih2 (by omega) (some (a, b), al a b) _ (fun q e => by cases e; exact ⟨by show a < 10; omega, by show b < 10; omega⟩) hf) | (rw [no (fun q => q.elim (fun q => h1 ((ok _ hq).mpr q)) (fun q => absurd q (Int32.not_lt.mpr h2)))] at hf; exact ih2 (by omega) acc _ hq hf) | (rw [yes (Or.inr (Int32.not_le.mp h2))] at hf; exact ih2 (by omega) (some (a, b), al a b) _ (fun q e => by cases e; exact ⟨by show a < 10; omega, by show b < 10; omega⟩) hf)
            · refine q_0 ?_
              refine q_3 rfl ?_
              first | refine q_mul ?_ | refine q_11 rfl ?_
              refine q_3 rfl ?_
              first | refine q_add ?_ | refine q_11 rfl ?_
              refine q_6 rfl rfl rfl ?_
              refine q_3 rfl ?_
              refine q_6 rfl rfl rfl ?_
              first | refine q_inc rfl rfl rfl ?_ | refine q_9 rfl rfl rfl ?_
              refine q_23 ?_
              first | (rw [yes (Or.inl ((ok _ hq).mp h1))] at hf; exact ih2 (by omega) (some (a, b), al a b) _ (fun q e => by cases e; exact ⟨by show a < 10; omega, by show b < 10; omega⟩) hf) | (rw [no (fun q => q.elim (fun q => h1 ((ok _ hq).mpr q)) (fun q => absurd q (Int32.not_lt.mpr h2)))] at hf; exact ih2 (by omega) acc _ hq hf) | (rw [yes (Or.inr (Int32.not_le.mp h2))] at hf; exact ih2 (by omega) (some (a, b), al a b) _ (fun q e => by cases e; exact ⟨by show a < 10; omega, by show b < 10; omega⟩) hf)
      intro acc x4 x5 hq hf
      rw [fld_step ha] at hf
      refine q_3 rfl ?_
      refine q_5 rfl ?_
      refine q_33 rfl (by decide) (hP _ _ _ rfl) ?_
      first | refine q_31E rfl (by decide) hn ?_ | refine q_31 rfl (by decide) ?_
      refine q_geN (by omega) (by omega) (fun hh => absurd hh (by omega)) (fun hh => ?_)
      refine q_3 rfl ?_
      refine q_0 ?_
      first | refine q_add ?_ | refine q_11 rfl ?_
      refine q_6 rfl rfl rfl ?_
      exact L22 (a + 1) (by omega) (Nat.le_refl _) acc _ hq hf
  show mj_run (mj_ev d) k76 Q (k76 0) [some (.ref 55), none, none, none, none, none] [] (107, I, L, P) 0 0
  refine q_1 ?_
  refine q_6 rfl rfl rfl ?_
  refine q_0 ?_
  refine q_6 rfl rfl rfl ?_
  refine q_0 ?_
  refine q_6 rfl rfl rfl ?_
  exact L6 0 (by omega) (none, 0) _ _ (fun q e => by cases e) rfl
end C
