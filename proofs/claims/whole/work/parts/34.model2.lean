/-! the model's small methods: sets, checks -/
section M
variable {I : mj_I} {L : mj_L} {P : mj_P} {Q : mj_Q} {σ : mj_S} {d n r t a b : Nat} {w : WT} {c h : Nat → Nat} {m : MM}
theorem s_166 {p : Nat → Bool} (hn : n ≤ 10) (k : Q (.inl (some (.int (nI (cntF p n))))) (107, I, L, P)) : mj_ev (d + 1) 166 [.int (nI (maskF p n))] (107, I, L, P) Q := by
  refine ⟨rfl, ?_⟩
  have L4 : ∀ i, i ≤ 10 → mj_run (mj_ev d) k166 Q (k166 4) [some (.int (nI (maskF p n))), some (.int (nI (cntF (fun i => decide (i < n) && p i) i))), some (.int (nI i))] [] (107, I, L, P) 0 0 := by
    refine loop_up ?_ (fun i hi ih => ?_)
    · refine q_3 rfl ?_
      refine q_0 ?_
      refine q_geN (by omega) (by omega) (fun hh => ?_) (fun hh => absurd hh (by omega))
      refine q_3 rfl ?_
      refine q_26 ?_
      refine kQ k ?_
      rw [cntF_more _ hn (fun i h1 _ => by simp; omega), cntF_congr (p' := p) (fun i hi => by simp [hi])]
    · refine q_3 rfl ?_
      refine q_0 ?_
      refine q_geN (by omega) (by omega) (fun hh => absurd hh (by omega)) (fun hh => ?_)
      refine q_3 rfl ?_
      refine q_3 rfl ?_
      refine q_3 rfl ?_
      refine q_11 rfl ?_
      refine q_0 ?_
      refine q_11 rfl ?_
      rw [mask_bit' p hn (by omega)]
      first | refine q_add ?_ | refine q_11 rfl ?_
      refine q_6 rfl rfl rfl ?_
      first | refine q_inc rfl rfl rfl ?_ | refine q_9 rfl rfl rfl ?_
      refine q_23 ?_
      exact ih
  show mj_run (mj_ev d) k166 Q (k166 0) [some (.int (nI (maskF p n))), none, none] [] (107, I, L, P) 0 0
  refine q_0 ?_
  refine q_6 rfl rfl rfl ?_
  refine q_0 ?_
  refine q_6 rfl rfl rfl ?_
  exact L4 0 (by omega)
theorem s_215 (hP : PS t P) (hr : r ≤ 33) (hn : I 73 1 = nI n) (hR : RW n r c h m I) (k : Q (.inl (some (.int (nI (maskF (bm m) n))))) (107, I, L, P)) : mj_ev (d + 1) 215 [.ref 73, .int (nI r)] (107, I, L, P) Q := by
  refine ⟨rfl, ?_⟩
  have hn10 := hR.n10
  have L4 : ∀ i, i ≤ n → mj_run (mj_ev d) k215 Q (k215 4) [some (.ref 73), some (.int (nI r)), some (.int (nI (maskF (bm m) i))), some (.int (nI i))] [] (107, I, L, P) 0 0 := by
    refine loop_up ?_ (fun i hi ih => ?_)
    · refine q_3 rfl ?_
      refine q_5 rfl ?_
      first | refine q_31E rfl (by decide) hn ?_ | refine q_31 rfl (by decide) ?_
      refine q_geN (by omega) (by omega) (fun hh => ?_) (fun hh => absurd hh (by omega))
      refine q_3 rfl ?_
      refine q_26 ?_
      exact k
    · have g := hR.mat hi
      have m1 := hR.m31 hi
      refine q_3 rfl ?_
      refine q_5 rfl ?_
      first | refine q_31E rfl (by decide) hn ?_ | refine q_31 rfl (by decide) ?_
      refine q_geN (by omega) (by omega) (fun hh => absurd hh (by omega)) (fun hh => ?_)
      refine q_3 rfl ?_
      refine q_5 rfl ?_
      refine q_33 rfl (by decide) (hP _ _ _ rfl) ?_
      refine q_3 rfl ?_
      refine q_0 ?_
      first | refine q_add ?_ | refine q_11 rfl ?_
      refine q_3 rfl ?_
      first | refine q_add ?_ | refine q_11 rfl ?_
      first | refine q_38E _ rfl (by decide) rfl (by show _ < 66; omega) (by decide) (g) ?_ | refine q_38 _ rfl (by decide) rfl (by show _ < 66; omega) (by decide) ?_
      refine q_1 ?_
      first | refine q_d22_0Nn (J := 35) (by omega) (by omega) (fun j => q_0 (j)) (fun j => q_0 (q_3 rfl (q_shl1 (by omega) (q_23 (j))))) ?_ | refine q_d22_0Ni (J := 35) (by omega) (by omega) (fun j => q_0 (j)) (fun j => q_0 (q_3 rfl (q_shl1 (by omega) (q_23 (j))))) ?_ | refine q_d22_0Mn (J := 35) (by assumption) (fun j => q_0 (j)) (fun j => q_0 (q_3 rfl (q_shl1 (by omega) (q_23 (j))))) ?_ | refine q_d22_0In (J := 35) (fun j => q_0 (j)) (fun j => q_0 (q_3 rfl (q_shl1 (by omega) (q_23 (j))))) ?_ | refine q_d22_0Ii (J := 35) (fun j => q_0 (j)) (fun j => q_0 (q_3 rfl (q_shl1 (by omega) (q_23 (j))))) ?_
      first | refine q_orN ?_ | refine q_11 rfl ?_
      refine q_6 rfl rfl rfl ?_
      first | refine q_inc rfl rfl rfl ?_ | refine q_9 rfl rfl rfl ?_
      refine q_23 ?_
      rw [mask_acc0 (p := bm m) (by simp [bm])]
      exact ih
  show mj_run (mj_ev d) k215 Q (k215 0) [some (.ref 73), some (.int (nI r)), none, none] [] (107, I, L, P) 0 0
  refine q_0 ?_
  refine q_6 rfl rfl rfl ?_
  refine q_0 ?_
  refine q_6 rfl rfl rfl ?_
  exact L4 0 (by omega)
theorem s_216r (hP : PS t P) (hr : r ≤ 33) (hn : I 73 1 = nI n) (hR : RW n r c h m I) (k : Q (.inl (some (.int (nI (sumN h n))))) (107, I, L, P)) : mj_ev (d + 1) 216 [.ref 73, .int (nI r)] (107, I, L, P) Q := by
  refine s_216 hP hn hR.n10 hr (kQ k ?_)
  have hi : ∀ i, i ≤ n → sumF (fun p => I 89 (r + 12 + p)) i = nI (sumN h i) := by
    intro i
    induction i with
    | zero => intro _; rfl
    | succ i ih =>
      intro hi
      show sumF _ i + I 89 (r + 12 + i) = nI (sumN h i + h i)
      rw [ih (by omega), hR.hol (by omega), nI_add]
  exact hi n (Nat.le_refl _)
theorem s_217 (hP : PS t P) (hW : MT w I) (hR : RW w.n 0 c h m I) (ha : a < w.n) (k : ∀ I', Eqf (frm [91, 92] []) I I' → Q (.inl (some (.int (nI (maskF (my w c h a) w.n))))) (107, I', L, P)) : mj_ev (d + 6) 217 [.ref 73, .int (nI a)] (107, I, L, P) Q := by
  refine ⟨rfl, ?_⟩
  have hn10 := hR.n10
  have L4 : ∀ i, i ≤ w.n → ∀ I', Eqf (frm [91, 92] []) I I' → mj_run (mj_ev (d + 5)) k217 Q (k217 4) [some (.ref 73), some (.int (nI a)), some (.int (nI (maskF (my w c h a) i))), some (.int (nI i))] [] (107, I', L, P) 0 0 := by
    refine loop_up ?_ (fun i hi ih => ?_)
    · intro I' e'
      have hn := (hW.f91 e').hn
      refine q_3 rfl ?_
      refine q_5 rfl ?_
      first | refine q_31E rfl (by decide) hn ?_ | refine q_31 rfl (by decide) ?_
      refine q_geN (by omega) (by omega) (fun hh => ?_) (fun hh => absurd hh (by omega))
      refine q_3 rfl ?_
      refine q_26 ?_
      exact k I' e'
    · intro I' e'
      have hn := (hW.f91 e').hn
      refine q_3 rfl ?_
      refine q_5 rfl ?_
      first | refine q_31E rfl (by decide) hn ?_ | refine q_31 rfl (by decide) ?_
      refine q_geN (by omega) (by omega) (fun hh => absurd hh (by omega)) (fun hh => ?_)
      refine q_3 rfl ?_
      refine q_5 rfl ?_
      refine q_0 ?_
      refine q_3 rfl ?_
      refine q_3 rfl ?_
      refine q_47 (mj_ev_mono _) [_, _, _] rfl rfl rfl (by decide) rfl rfl rfl ?_
      refine s_206 hP (Nat.zero_le _) (hW.f91 e') (hR.f91 e') ha hi (fun I2 e2 => ?_)
      refine q_d21_0Nn (J := 30) (by split <;> (try split) <;> omega) (fun j => q_0 (j)) (fun j => q_0 (q_3 rfl (q_shl1 (by omega) (q_23 (j))))) ?_
      refine q_orN ?_
      rw [mask_acc0 (p := my w c h a) (by unfold my; by_cases e1 : a = i <;> by_cases e3 : 0 < alk w c h a i <;> simp [e1, e3])]
      refine q_6 rfl rfl rfl ?_
      refine q_inc rfl rfl rfl ?_
      refine q_23 ?_
      exact ih I2 (e'.tr e2)
  show mj_run (mj_ev (d + 5)) k217 Q (k217 0) [some (.ref 73), some (.int (nI a)), none, none] [] (107, I, L, P) 0 0
  refine q_0 ?_
  refine q_6 rfl rfl rfl ?_
  refine q_0 ?_
  refine q_6 rfl rfl rfl ?_
  exact L4 0 (by omega) I Eqf.rf
theorem s_218 (hP : PS t P) (hW : MT w I) (hR : RW w.n 0 c h m I) (ha : a < w.n) (k : ∀ I', Eqf (frm [91, 92] []) I I' → Q (.inl (some (.int (nI (maskF (rth w c h m a) w.n))))) (107, I', L, P)) : mj_ev (d + 7) 218 [.ref 73, .int (nI a)] (107, I, L, P) Q := by
  refine ⟨rfl, ?_⟩
  have hn10 := hR.n10
  have g0 := hR.mat0 ha
  have m1 := hR.m31 ha
  show mj_run (mj_ev (d + 6)) k218 Q (k218 0) [some (.ref 73), some (.int (nI a)), none, none, none, none] [] (107, I, L, P) 0 0
  cases hm : m a with
  | none =>
    rw [hm] at g0
    have g1 : I 89 (23 + a) = -(nI 1) := g0
    refine q_5 rfl ?_
    refine q_33 rfl (by decide) (hP _ _ _ rfl) ?_
    refine q_0 ?_
    refine q_3 rfl ?_
    first | refine q_add ?_ | refine q_11 rfl ?_
    first | refine q_38E _ rfl (by decide) rfl (by show _ < 66; omega) (by decide) (g1) ?_ | refine q_38 _ rfl (by decide) rfl (by show _ < 66; omega) (by decide) ?_
    refine q_6 rfl rfl rfl ?_
    refine q_5 rfl ?_
    refine q_3 rfl ?_
    refine q_47 (mj_ev_mono _) [_] rfl rfl rfl (by decide) rfl rfl rfl ?_
    refine s_217 hP hW hR ha (fun I1 e1 => ?_)
    refine q_6 rfl rfl rfl ?_
    refine q_3 rfl ?_
    refine q_1 ?_
    refine q_neI (fun h => absurd rfl h) (fun _ => ?_)
    refine q_3 rfl ?_
    refine q_26 ?_
    exact kQ (k I1 e1) (by rw [rth_none hm])
  | some b =>
    rw [hm] at g0
    have g1 : I 89 (23 + a) = nI b := g0
    have hb := (hR.gm a ha b hm).1
    have L34 : ∀ i, i ≤ w.n → ∀ I', Eqf (frm [91, 92] []) I I' → mj_run (mj_ev (d + 6)) k218 Q (k218 34) [some (.ref 73), some (.int (nI a)), some (.int (nI b)), some (.int (nI (maskF (rthi w c h a b i) w.n))), some (.int (lik w c h a b)), some (.int (nI i))] [] (107, I', L, P) 0 0 := by
      refine loop_up ?_ (fun i hi ih => ?_)
      · intro I' e'
        have hn := (hW.f91 e').hn
        refine q_3 rfl ?_
        refine q_5 rfl ?_
        first | refine q_31E rfl (by decide) hn ?_ | refine q_31 rfl (by decide) ?_
        refine q_geN (by omega) (by omega) (fun hh => ?_) (fun hh => absurd hh (by omega))
        refine q_3 rfl ?_
        refine q_26 ?_
        exact kQ (k I' e') (by rw [rth_some hm]; exact congrArg nI (mask_congr (fun q hq => by unfold rthi rtb; simp [show ¬ w.n ≤ q by omega])))
      · intro I' e'
        have hn := (hW.f91 e').hn
        have same : (rthi w c h a b i i = false ∨ lik w c h a b < lik w c h a i) → maskF (rthi w c h a b (i + 1)) w.n = maskF (rthi w c h a b i) w.n := by
          intro hs
          refine mask_congr (fun q hq => ?_)
          by_cases e : q = i
          · subst e
            unfold rthi at hs ⊢
            rcases hs with hs | hs
            · simp at hs
              simp [hs]
            · simp [hs]
          · unfold rthi
            rw [show decide (i + 1 ≤ q) = decide (i ≤ q) from decide_eq_decide.mpr (by omega)]
        cases hq : rthi w c h a b i i with
        | false =>
          rw [same (Or.inl hq)] at ih
          refine q_3 rfl ?_
          refine q_5 rfl ?_
          first | refine q_31E rfl (by decide) hn ?_ | refine q_31 rfl (by decide) ?_
          refine q_geN (by omega) (by omega) (fun hh => absurd hh (by omega)) (fun hh => ?_)
          refine q_3 rfl ?_
          refine q_3 rfl ?_
          first | refine q_bitT (by assumption) (by omega) (by omega) ?_ | refine q_bitF (by assumption) (by omega) (by omega) ?_ | refine q_bit (by omega) (by omega) ?_ | refine q_bitM (by first | omega | assumption) (by omega) ?_
          refine q_0 ?_
          refine q_neN (by omega) (by omega) (fun hh => ?_) (fun hh => absurd hh (by omega))
          first | refine q_inc rfl rfl rfl ?_ | refine q_9 rfl rfl rfl ?_
          refine q_23 ?_
          exact ih I' e'
        | true =>
          refine q_3 rfl ?_
          refine q_5 rfl ?_
          first | refine q_31E rfl (by decide) hn ?_ | refine q_31 rfl (by decide) ?_
          refine q_geN (by omega) (by omega) (fun hh => absurd hh (by omega)) (fun hh => ?_)
          refine q_3 rfl ?_
          refine q_3 rfl ?_
          first | refine q_bitT (by assumption) (by omega) (by omega) ?_ | refine q_bitF (by assumption) (by omega) (by omega) ?_ | refine q_bit (by omega) (by omega) ?_ | refine q_bitM (by first | omega | assumption) (by omega) ?_
          refine q_0 ?_
          refine q_neN (by omega) (by omega) (fun hh => absurd hh (by omega)) (fun hh => ?_)
          refine q_5 rfl ?_
          refine q_3 rfl ?_
          refine q_3 rfl ?_
          refine q_47 (mj_ev_mono _) [_, _] rfl rfl rfl (by decide) rfl rfl rfl ?_
          refine s_207 hP (hW.f91 e') (hR.f91 e') ha hi (fun I2 e2 => ?_)
          refine q_3 rfl ?_
          refine q_gtI (fun h3 => ?_) (fun h3 => ?_)
          · first | refine q_inc rfl rfl rfl ?_ | refine q_9 rfl rfl rfl ?_
            refine q_23 ?_
            first | (rw [same (Or.inr h3)] at ih; exact ih I2 (e'.tr e2)) | (rw [mask_clb _ hi, rthi_cl h3]; exact ih I2 (e'.tr e2))
          · refine q_3 rfl ?_
            refine q_0 ?_
            refine q_3 rfl ?_
            first | refine q_shl1 (by omega) ?_ | refine q_11 rfl ?_
            refine q_andnot ?_
            refine q_6 rfl rfl rfl ?_
            first | refine q_inc rfl rfl rfl ?_ | refine q_9 rfl rfl rfl ?_
            refine q_23 ?_
            first | (rw [same (Or.inr h3)] at ih; exact ih I2 (e'.tr e2)) | (rw [mask_clb _ hi, rthi_cl h3]; exact ih I2 (e'.tr e2))
    refine q_5 rfl ?_
    refine q_33 rfl (by decide) (hP _ _ _ rfl) ?_
    refine q_0 ?_
    refine q_3 rfl ?_
    first | refine q_add ?_ | refine q_11 rfl ?_
    first | refine q_38E _ rfl (by decide) rfl (by show _ < 66; omega) (by decide) (g1) ?_ | refine q_38 _ rfl (by decide) rfl (by show _ < 66; omega) (by decide) ?_
    refine q_6 rfl rfl rfl ?_
    refine q_5 rfl ?_
    refine q_3 rfl ?_
    refine q_47 (mj_ev_mono _) [_] rfl rfl rfl (by decide) rfl rfl rfl ?_
    refine s_217 hP hW hR ha (fun I1 e1 => ?_)
    refine q_6 rfl rfl rfl ?_
    refine q_3 rfl ?_
    refine q_1 ?_
    refine q_neI (fun _ => ?_) (fun h => absurd (mI_ne (by omega)) h)
    refine q_5 rfl ?_
    refine q_3 rfl ?_
    refine q_3 rfl ?_
    refine q_47 (mj_ev_mono _) [_, _] rfl rfl rfl (by decide) rfl rfl rfl ?_
    refine s_207 hP (hW.f91 e1) (hR.f91 e1) ha hb (fun I2 e2 => ?_)
    refine q_6 rfl rfl rfl ?_
    refine q_0 ?_
    refine q_6 rfl rfl rfl ?_
    rw [show maskF (my w c h a) w.n = maskF (rthi w c h a b 0) w.n from mask_congr (fun q hq => by unfold rthi; simp)]
    exact L34 0 (by omega) I2 (e1.tr e2)
theorem s_219 (hP : PS t P) (hW : MT w I) (hR : RW w.n 0 c h m I) (k : ∀ I', Eqf (frm [91, 92] []) I I' → Q (.inl (some (.int (nI (sumN (fun p => cntF (my w c h p) w.n) w.n / 2))))) (107, I', L, P)) : mj_ev (d + 7) 219 [.ref 73] (107, I, L, P) Q := by
  refine ⟨rfl, ?_⟩
  have hn10 := hR.n10
  have L4 : ∀ i, i ≤ w.n → ∀ I', Eqf (frm [91, 92] []) I I' → mj_run (mj_ev (d + 6)) k219 Q (k219 4) [some (.ref 73), some (.int (nI (sumN (fun p => cntF (my w c h p) w.n) i))), some (.int (nI i))] [] (107, I', L, P) 0 0 := by
    refine loop_up ?_ (fun i hi ih => ?_)
    · intro I' e'
      have hn := (hW.f91 e').hn
      have hs : sumN (fun p => cntF (my w c h p) w.n) w.n ≤ w.n * 10 := sumN_le (fun i _ => Nat.le_trans (cntF_le _ _) hn10)
      refine q_3 rfl ?_
      refine q_5 rfl ?_
      first | refine q_31E rfl (by decide) hn ?_ | refine q_31 rfl (by decide) ?_
      refine q_geN (by omega) (by omega) (fun hh => ?_) (fun hh => absurd hh (by omega))
      refine q_3 rfl ?_
      refine q_0 ?_
      first | refine q_divN (by omega) (by omega) (by omega) ?_ | refine q_div (by assumption) ?_
      refine q_26 ?_
      exact k I' e'
    · intro I' e'
      have hn := (hW.f91 e').hn
      refine q_3 rfl ?_
      refine q_5 rfl ?_
      first | refine q_31E rfl (by decide) hn ?_ | refine q_31 rfl (by decide) ?_
      refine q_geN (by omega) (by omega) (fun hh => absurd hh (by omega)) (fun hh => ?_)
      refine q_3 rfl ?_
      refine q_5 rfl ?_
      refine q_3 rfl ?_
      refine q_47 (mj_ev_mono _) [_] rfl rfl rfl (by decide) rfl rfl rfl ?_
      refine s_217 hP (hW.f91 e') (hR.f91 e') hi (fun I2 e2 => ?_)
      refine q_48 (mj_ev_mono _) [_] rfl rfl rfl rfl rfl ?_
      refine s_166 hn10 ?_
      first | refine q_add ?_ | refine q_11 rfl ?_
      refine q_6 rfl rfl rfl ?_
      first | refine q_inc rfl rfl rfl ?_ | refine q_9 rfl rfl rfl ?_
      refine q_23 ?_
      exact ih I2 (e'.tr e2)
  show mj_run (mj_ev (d + 6)) k219 Q (k219 0) [some (.ref 73), none, none] [] (107, I, L, P) 0 0
  refine q_0 ?_
  refine q_6 rfl rfl rfl ?_
  refine q_0 ?_
  refine q_6 rfl rfl rfl ?_
  exact L4 0 (by omega) I Eqf.rf
theorem s_163T (h0 : I 73 0 = nI 0) {x : Int32} (k : Q (.inl (some (.int (nI 1)))) (107, I, L, P)) : mj_ev (d + 1) 163 [.ref 73, .int (nI 1), .int x] (107, I, L, P) Q := by
  refine ⟨rfl, ?_⟩
  show mj_run (mj_ev d) k163 Q (k163 0) [some (.ref 73), some (.int (nI 1)), some (.int x)] [] (107, I, L, P) 0 0
  refine q_5 rfl ?_
  first | refine q_31E rfl (by decide) h0 ?_ | refine q_31 rfl (by decide) ?_
  refine q_neN0 (by omega) (fun h => absurd rfl h) (fun _ => ?_)
  refine q_3 rfl ?_
  refine q_neN0 (by omega) (fun _ => ?_) (fun h => absurd h (by omega))
  refine q_5 rfl ?_
  first | refine q_31E rfl (by decide) h0 ?_ | refine q_31 rfl (by decide) ?_
  refine q_neN0 (by omega) (fun h => absurd rfl h) (fun _ => ?_)
  refine q_0 ?_
  refine q_23 ?_
  refine q_27 (by first | exact Or.inl rfl | exact Or.inr rfl | assumption | (split <;> first | exact Or.inl rfl | exact Or.inr rfl)) ?_
  exact k
theorem s_163F (h0 : I 73 0 = nI 0) {x : Nat} (hx : 0 < x) (hx2 : x < 10) (k : Q (.inl (some (.int (nI 0)))) (107, mj_upI I 73 0 (nI x), L, P)) : mj_ev (d + 1) 163 [.ref 73, .int (nI 0), .int (nI x)] (107, I, L, P) Q := by
  refine ⟨rfl, ?_⟩
  have h1 : mj_upI I 73 0 (nI x) 73 0 = nI x := upI_s
  show mj_run (mj_ev d) k163 Q (k163 0) [some (.ref 73), some (.int (nI 0)), some (.int (nI x))] [] (107, I, L, P) 0 0
  refine q_5 rfl ?_
  first | refine q_31E rfl (by decide) h0 ?_ | refine q_31E rfl (by decide) h1 ?_ | refine q_31 rfl (by decide) ?_
  refine q_neN0 (by omega) (fun h => absurd rfl h) (fun _ => ?_)
  refine q_3 rfl ?_
  refine q_neN0 (by omega) (fun h => absurd rfl h) (fun _ => ?_)
  refine q_5 rfl ?_
  refine q_3 rfl ?_
  refine q_34 rfl (by decide) ?_
  refine q_5 rfl ?_
  first | refine q_31E rfl (by decide) h0 ?_ | refine q_31E rfl (by decide) h1 ?_ | refine q_31 rfl (by decide) ?_
  refine q_neN0 (by omega) (fun _ => ?_) (fun h => absurd h (by omega))
  refine q_0 ?_
  refine q_27 (by first | exact Or.inl rfl | exact Or.inr rfl | assumption | (split <;> first | exact Or.inl rfl | exact Or.inr rfl)) ?_
  exact k
theorem s_164 {x lo hi : Int32} (k : Q (.inl (some (.int (nI (if x < lo then 0 else if hi < x then 0 else 1))))) (107, I, L, P)) : mj_ev (d + 1) 164 [.int x, .int lo, .int hi] (107, I, L, P) Q := by
  refine ⟨rfl, ?_⟩
  show mj_run (mj_ev d) k164 Q (k164 0) [some (.int x), some (.int lo), some (.int hi)] [] (107, I, L, P) 0 0
  refine q_3 rfl ?_
  refine q_3 rfl ?_
  refine q_ltI (fun h1 => ?_) (fun h1 => ?_)
  · refine q_0 ?_
    refine q_27 (by first | exact Or.inl rfl | exact Or.inr rfl | assumption | (split <;> first | exact Or.inl rfl | exact Or.inr rfl)) ?_
    first | exact kQ k (by rw [if_pos h1]) | exact kQ k (by rw [if_neg h1, if_pos h2]) | exact kQ k (by rw [if_neg h1, if_neg h2])
  · refine q_3 rfl ?_
    refine q_3 rfl ?_
    refine q_gtI (fun h2 => ?_) (fun h2 => ?_)
    · refine q_0 ?_
      refine q_27 (by first | exact Or.inl rfl | exact Or.inr rfl | assumption | (split <;> first | exact Or.inl rfl | exact Or.inr rfl)) ?_
      first | exact kQ k (by rw [if_pos h1]) | exact kQ k (by rw [if_neg h1, if_pos h2]) | exact kQ k (by rw [if_neg h1, if_neg h2])
    · refine q_0 ?_
      refine q_23 ?_
      refine q_27 (by first | exact Or.inl rfl | exact Or.inr rfl | assumption | (split <;> first | exact Or.inl rfl | exact Or.inr rfl)) ?_
      first | exact kQ k (by rw [if_pos h1]) | exact kQ k (by rw [if_neg h1, if_pos h2]) | exact kQ k (by rw [if_neg h1, if_neg h2])
theorem s_221T (hn : I 73 1 = nI n) (hn10 : n ≤ 10) (h0 : I 73 0 = nI 0) (ha : a < n) (k : Q (.inl (some (.int (nI 1)))) (107, I, L, P)) : mj_ev (d + 2) 221 [.ref 73, .int (nI a)] (107, I, L, P) Q := by
  refine ⟨rfl, ?_⟩
  show mj_run (mj_ev (d + 1)) k221 Q (k221 0) [some (.ref 73), some (.int (nI a))] [] (107, I, L, P) 0 0
  refine q_5 rfl ?_
  refine q_3 rfl ?_
  refine q_ltN0 (by omega) ?_
  refine q_3 rfl ?_
  refine q_5 rfl ?_
  first | refine q_31E rfl (by decide) hn ?_ | refine q_31 rfl (by decide) ?_
  refine q_geN (by omega) (by omega) (fun hh => absurd hh (by omega)) (fun hh => ?_)
  refine q_0 ?_
  refine q_23 ?_
  refine q_0 ?_
  refine q_47 (mj_ev_mono _) [_, _] rfl rfl rfl (by decide) rfl rfl rfl ?_
  refine s_163T h0 ?_
  refine q_27 (by first | exact Or.inl rfl | exact Or.inr rfl | assumption | (split <;> first | exact Or.inl rfl | exact Or.inr rfl)) ?_
  exact k
theorem s_221F {x : Int32} (hn : I 73 1 = nI n) (hn10 : n ≤ 10) (h0 : I 73 0 = nI 0) (hx : x < 0 ∨ nI n ≤ x) (k : Q (.inl (some (.int (nI 0)))) (107, mj_upI I 73 0 (nI 1), L, P)) : mj_ev (d + 2) 221 [.ref 73, .int x] (107, I, L, P) Q := by
  refine ⟨rfl, ?_⟩
  show mj_run (mj_ev (d + 1)) k221 Q (k221 0) [some (.ref 73), some (.int x)] [] (107, I, L, P) 0 0
  refine q_5 rfl ?_
  refine q_3 rfl ?_
  refine q_ltI0 (fun h1 => ?_) (fun h1 => ?_)
  · refine q_0 ?_
    refine q_0 ?_
    refine q_47 (mj_ev_mono _) [_, _] rfl rfl rfl (by decide) rfl rfl rfl ?_
    refine s_163F h0 (by omega) (by omega) ?_
    refine q_27 (by first | exact Or.inl rfl | exact Or.inr rfl | assumption | (split <;> first | exact Or.inl rfl | exact Or.inr rfl)) ?_
    exact k
  · refine q_3 rfl ?_
    refine q_5 rfl ?_
    first | refine q_31E rfl (by decide) hn ?_ | refine q_31 rfl (by decide) ?_
    refine q_geI (fun h2 => ?_) (fun h2 => absurd (hx.resolve_left h1) h2)
    refine q_0 ?_
    refine q_0 ?_
    refine q_47 (mj_ev_mono _) [_, _] rfl rfl rfl (by decide) rfl rfl rfl ?_
    refine s_163F h0 (by omega) (by omega) ?_
    refine q_27 (by first | exact Or.inl rfl | exact Or.inr rfl | assumption | (split <;> first | exact Or.inl rfl | exact Or.inr rfl)) ?_
    exact k
theorem s_222T {g : Nat} (h0 : I 73 0 = nI 0) (ha : a ≤ g) (hg : g < 100) (k : Q (.inl (some (.int (nI 1)))) (107, I, L, P)) : mj_ev (d + 2) 222 [.ref 73, .int (nI a), .int (nI g)] (107, I, L, P) Q := by
  refine ⟨rfl, ?_⟩
  show mj_run (mj_ev (d + 1)) k222 Q (k222 0) [some (.ref 73), some (.int (nI a)), some (.int (nI g))] [] (107, I, L, P) 0 0
  refine q_5 rfl ?_
  refine q_3 rfl ?_
  refine q_0 ?_
  refine q_3 rfl ?_
  refine q_48 (mj_ev_mono _) [_, _, _] rfl rfl rfl rfl rfl ?_
  refine s_164 ?_
  rw [if_neg (nI_nlt (by omega) (by omega)), if_neg (nI_nlt (by omega) (by omega))]
  refine q_0 ?_
  refine q_47 (mj_ev_mono _) [_, _] rfl rfl rfl (by decide) rfl rfl rfl ?_
  refine s_163T h0 ?_
  refine q_27 (by first | exact Or.inl rfl | exact Or.inr rfl | assumption | (split <;> first | exact Or.inl rfl | exact Or.inr rfl)) ?_
  exact k
theorem s_222F {g : Nat} {x : Int32} (h0 : I 73 0 = nI 0) (hx : x < nI 0 ∨ nI g < x) (k : Q (.inl (some (.int (nI 0)))) (107, mj_upI I 73 0 (nI 1), L, P)) : mj_ev (d + 2) 222 [.ref 73, .int x, .int (nI g)] (107, I, L, P) Q := by
  refine ⟨rfl, ?_⟩
  show mj_run (mj_ev (d + 1)) k222 Q (k222 0) [some (.ref 73), some (.int x), some (.int (nI g))] [] (107, I, L, P) 0 0
  refine q_5 rfl ?_
  refine q_3 rfl ?_
  refine q_0 ?_
  refine q_3 rfl ?_
  refine q_48 (mj_ev_mono _) [_, _, _] rfl rfl rfl rfl rfl ?_
  refine s_164 ?_
  rw [show (if x < nI 0 then 0 else if nI g < x then 0 else 1) = 0 from by rcases hx with h | h <;> simp [h]]
  refine q_0 ?_
  refine q_47 (mj_ev_mono _) [_, _] rfl rfl rfl (by decide) rfl rfl rfl ?_
  refine s_163F h0 (by omega) (by omega) ?_
  refine q_27 (by first | exact Or.inl rfl | exact Or.inr rfl | assumption | (split <;> first | exact Or.inl rfl | exact Or.inr rfl)) ?_
  exact k
theorem s_231T {y : Int32} (h0 : I 73 0 = nI 0) (ha : a ≤ 30) (k : Q (.inl (some (.int (nI 1)))) (107, I, L, P)) : mj_ev (d + 2) 231 [.ref 73, .int (nI a), .int y] (107, I, L, P) Q := by
  refine ⟨rfl, ?_⟩
  show mj_run (mj_ev (d + 1)) k231 Q (k231 0) [some (.ref 73), some (.int (nI a)), some (.int y)] [] (107, I, L, P) 0 0
  refine q_5 rfl ?_
  refine q_3 rfl ?_
  refine q_0 ?_
  refine q_0 ?_
  refine q_48 (mj_ev_mono _) [_, _, _] rfl rfl rfl rfl rfl ?_
  refine s_164 ?_
  rw [if_neg (nI_nlt (by omega) (by omega)), if_neg (nI_nlt (by omega) (by omega))]
  refine q_3 rfl ?_
  refine q_47 (mj_ev_mono _) [_, _] rfl rfl rfl (by decide) rfl rfl rfl ?_
  refine s_163T h0 ?_
  refine q_27 (by first | exact Or.inl rfl | exact Or.inr rfl | assumption | (split <;> first | exact Or.inl rfl | exact Or.inr rfl)) ?_
  exact k
theorem s_231F {y : Nat} {x : Int32} (hy : 0 < y) (hy2 : y < 10) (h0 : I 73 0 = nI 0) (hx : x < nI 0 ∨ nI 30 < x) (k : Q (.inl (some (.int (nI 0)))) (107, mj_upI I 73 0 (nI y), L, P)) : mj_ev (d + 2) 231 [.ref 73, .int x, .int (nI y)] (107, I, L, P) Q := by
  refine ⟨rfl, ?_⟩
  show mj_run (mj_ev (d + 1)) k231 Q (k231 0) [some (.ref 73), some (.int x), some (.int (nI y))] [] (107, I, L, P) 0 0
  refine q_5 rfl ?_
  refine q_3 rfl ?_
  refine q_0 ?_
  refine q_0 ?_
  refine q_48 (mj_ev_mono _) [_, _, _] rfl rfl rfl rfl rfl ?_
  refine s_164 ?_
  rw [show (if x < nI 0 then 0 else if nI 30 < x then 0 else 1) = 0 from by rcases hx with h | h <;> simp [h]]
  refine q_3 rfl ?_
  refine q_47 (mj_ev_mono _) [_, _] rfl rfl rfl (by decide) rfl rfl rfl ?_
  refine s_163F h0 hy hy2 ?_
  refine q_27 (by first | exact Or.inl rfl | exact Or.inr rfl | assumption | (split <;> first | exact Or.inl rfl | exact Or.inr rfl)) ?_
  exact k
end M
