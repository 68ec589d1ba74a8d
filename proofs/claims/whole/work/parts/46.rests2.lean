/-! the model: going through all ways at rest -/
theorem rsc_skip {F : (Nat → Bool) → MM → List MM} {ok : Nat → Nat → Bool} {n : Nat} {S : Nat → Bool} {m : MM} {p q : Nat} (hq : q ≤ n) : ∀ f, f ≤ q → (∀ x, f ≤ x → x < q → (decide (p < x) && S x && ok p x) = false) → rsc F ok n S m p (n - f) = rsc F ok n S m p (n - q) := by
  refine loop_up (fun _ => rfl) (fun f hf ih hx => ?_)
  rw [← ih (fun x h1 h2 => hx x (by omega) h2), show n - f = (n - (f + 1)) + 1 by omega]
  show (if p < n - 1 - (n - (f + 1)) ∧ _ then _ else _) ++ _ = _
  rw [show n - 1 - (n - (f + 1)) = f by omega, if_neg (fun z => by
    have := hx f (Nat.le_refl _) hf
    rw [decide_eq_true z.1, z.2.1, z.2.2] at this
    cases this), List.nil_append]
theorem rsc_none {F : (Nat → Bool) → MM → List MM} {ok : Nat → Nat → Bool} {n f : Nat} {S : Nat → Bool} {m : MM} {p : Nat} (hf : f ≤ n) (h : fnd n f (fun q => decide (p < q) && S q && ok p q) = none) : rsc F ok n S m p (n - f) = [] := by
  rw [rsc_skip (Nat.le_refl n) f hf (fun x h1 h2 => fnd_none.mp h x h1 h2), Nat.sub_self]
  rfl
theorem rsc_some {F : (Nat → Bool) → MM → List MM} {ok : Nat → Nat → Bool} {n f q : Nat} {S : Nat → Bool} {m : MM} {p : Nat} (h : fnd n f (fun q => decide (p < q) && S q && ok p q) = some q) : rsc F ok n S m p (n - f) = F (sm (sm S p) q) (bnd m p q) ++ rsc F ok n S m p (n - (q + 1)) := by
  obtain ⟨h1, h2, h3, h4⟩ := fnd_some h
  rw [rsc_skip (Nat.le_of_lt h2) f h1 h4, show n - q = (n - (q + 1)) + 1 by omega]
  show (if p < n - 1 - (n - (q + 1)) ∧ _ then _ else _) ++ _ = _
  simp only [Bool.and_eq_true, decide_eq_true_eq] at h3
  rw [show n - 1 - (n - (q + 1)) = q by omega, if_pos ⟨h3.1.1, h3.1.2, h3.2⟩]
/-- where the going through stands: ahead of p all is settled -/
def CC (n p : Nat) (fr S : Nat → Bool) (m : MM) : Prop := (∀ q, q < n → S q = true → fr q = true) ∧ (∀ q, q < p → S q = false) ∧ (∀ q, p ≤ q → q < n → fr q = true → S q = false → ∃ r, r < p ∧ m q = some r) ∧ gm n m ∧ (∀ q, q < n → S q = true → m q = none)
theorem CC.skip {n p : Nat} {fr S : Nat → Bool} {m : MM} (h : CC n p fr S m) (hp : S p = false) : CC n (p + 1) fr S m := by
  obtain ⟨c1, c2, c3, c4, c5⟩ := h
  refine ⟨c1, fun q hq => ?_, fun q h1 h2 h3 h4 => ?_, c4, c5⟩
  · by_cases e : q = p
    · rw [e]; exact hp
    · exact c2 q (by omega)
  · obtain ⟨r, hr, e⟩ := c3 q (by omega) h2 h3 h4
    exact ⟨r, by omega, e⟩
theorem CC.none {n p : Nat} {fr S : Nat → Bool} {m : MM} (h : CC n p fr S m) : CC n (p + 1) fr (sm S p) m := by
  obtain ⟨c1, c2, c3, c4, c5⟩ := h
  have sub : ∀ q, sm S p q = true → S q = true ∧ q ≠ p := fun q z => by
    unfold sm at z
    simp only [Bool.and_eq_true, Bool.not_eq_true', decide_eq_false_iff_not] at z
    exact z
  refine ⟨fun q hq z => c1 q hq (sub q z).1, fun q hq => ?_, fun q h1 h2 h3 h4 => ?_, c4, fun q hq z => c5 q hq (sub q z).1⟩
  · by_cases e : q = p
    · rw [e]; unfold sm; simp
    · unfold sm; rw [c2 q (by omega)]; rfl
  · obtain ⟨r, hr, e⟩ := c3 q (by omega) h2 h3 (by
      cases z : S q with
      | false => rfl
      | true =>
        unfold sm at h4
        rw [z] at h4
        simp at h4
        omega)
    exact ⟨r, by omega, e⟩
theorem CC.some {n p q : Nat} {fr S : Nat → Bool} {m : MM} (h : CC n p fr S m) (hpn : p < n) (hSp : S p = true) (hpq : p < q) (hq : q < n) (hSq : S q = true) : CC n (p + 1) fr (sm (sm S p) q) (bnd m p q) := by
  obtain ⟨c1, c2, c3, c4, c5⟩ := h
  have sub : ∀ x, sm (sm S p) q x = true → S x = true ∧ x ≠ p ∧ x ≠ q := fun x z => by
    unfold sm at z
    simp only [Bool.and_eq_true, Bool.not_eq_true', decide_eq_false_iff_not] at z
    exact ⟨z.1.1, z.1.2, z.2⟩
  refine ⟨fun x hx z => c1 x hx (sub x z).1, fun x hx => ?_, fun x h1 h2 h3 h4 => ?_, gm_bnd c4 hpn hq (by omega) (c5 p hpn hSp) (c5 q hq hSq), fun x hx z => ?_⟩
  · unfold sm
    by_cases e : x = p
    · simp [e]
    · rw [c2 x (by omega)]; rfl
  · unfold bnd
    by_cases e : x = q
    · exact ⟨p, by omega, by rw [if_pos e]⟩
    · have hs : S x = false := by
        cases z : S x with
        | false => rfl
        | true =>
          unfold sm at h4
          rw [z] at h4
          simp [e] at h4
          omega
      obtain ⟨r, hr, e2⟩ := c3 x (by omega) h2 h3 hs
      exact ⟨r, by omega, by rw [if_neg e, if_neg (by omega)]; exact e2⟩
  · obtain ⟨z1, z2, z3⟩ := sub x z
    unfold bnd
    rw [if_neg z3, if_neg z2]
    exact c5 x hx z1
theorem WH.set {n p q : Nat} {S : Nat → Bool} {m : MM} {I : mj_I} (h : WH n S m I) (hpq : p ≠ q) : WH n (sm (sm S p) q) (bnd m p q) (mj_upI (mj_upI I 97 p (nI q)) 97 q (nI p)) := by
  intro x hx
  unfold wth sm bnd
  by_cases e1 : x = q
  · subst e1
    rw [upI_s]
    simp [wI]
  · by_cases e2 : x = p
    · subst e2
      rw [upI_j e1, upI_s]
      simp [wI, e1]
    · rw [upI_j e1, upI_j e2, h x hx]
      unfold wth
      simp [e1, e2]
theorem WH.no {n p : Nat} {S : Nat → Bool} {m : MM} {I : mj_I} (h : WH n S m I) (hm : m p = none) : WH n (sm S p) m (mj_upI I 97 p (nI 10)) := by
  intro x hx
  unfold wth sm
  by_cases e2 : x = p
  · subst e2
    rw [upI_s, hm]
    simp [wI]
  · rw [upI_j e2, h x hx]
    unfold wth
    simp [e2]
theorem WH.back {n p q : Nat} {S : Nat → Bool} {m : MM} {I : mj_I} (h : WH n (sm (sm S p) q) (bnd m p q) I) (hSp : S p = true) (hSq : S q = true) : WH n S m (mj_upI (mj_upI I 97 q (-(nI 1))) 97 p (-(nI 1))) := by
  intro x hx
  unfold wth
  by_cases e2 : x = p
  · subst e2
    rw [upI_s, if_pos hSp]
  · rw [upI_j e2]
    by_cases e1 : x = q
    · subst e1
      rw [upI_s, if_pos hSq]
    · rw [upI_j e1, h x hx]
      unfold wth sm bnd
      simp [e1, e2]
theorem WH.back0 {n p : Nat} {S : Nat → Bool} {m : MM} {I : mj_I} (h : WH n (sm S p) m I) (hSp : S p = true) : WH n S m (mj_upI I 97 p (-(nI 1))) := by
  intro x hx
  unfold wth
  by_cases e2 : x = p
  · subst e2
    rw [upI_s, if_pos hSp]
  · rw [upI_j e2, h x hx]
    unfold wth sm
    simp [e2]
theorem RA.up97 {n p : Nat} {R : List MM} {I : mj_I} {v : Int32} (h : RA n R I) : RA n R (mj_upI I 97 p v) := h
section M
variable {I : mj_I} {L : mj_L} {P : mj_P} {Q : mj_Q} {d n r t a b : Nat} {A : AS} {w : WT} {c h : Nat → Nat} {m : MM} {S : Nat → Bool} {al li : Nat → Nat → Int32} {fr : Nat → Bool}
theorem g_254 (hP : PS t P) (hn : I 73 1 = nI n) (hn10 : n ≤ 10) (hA : AL al n I) (hL : LK li n I) : ∀ (i : Nat), i ≤ n → ∀ (S : Nat → Bool) (m : MM) (R : List MM), CC n (n - i) fr S m → R.length + (rs (okA al) n i S m).length < 2 ^ 31 →
    (∀ I' x4 x5, Eqf FR I I' → WH n S m I' → RA n (R ++ (rs (okA al) n i S m).filter (stb (okA al) li fr n)) I' → mj_run (mj_ev (d + 2)) k254 Q (k254 67) [some (.ref 73), some (.int (nI (maskF fr n))), some (.int (nI (n - i) - nI 1)), some (.int (nI 0)), x4, x5] [] (107, I', L, P) 0 0) →
    ∀ I' x4 x5, Eqf FR I I' → WH n S m I' → RA n R I' → mj_run (mj_ev (d + 2)) k254 Q (k254 67) [some (.ref 73), some (.int (nI (maskF fr n))), some (.int (nI (n - i))), some (.int (nI 1)), x4, x5] [] (107, I', L, P) 0 0 := by
  have tA : ∀ {I' : mj_I}, Eqf FR I I' → AL al n I' := fun e a b ha hb => (e 93 _ rfl).trans (hA a b ha hb)
  have tL : ∀ {I' : mj_I}, Eqf FR I I' → LK li n I' := fun e a b ha hb => (e 96 _ rfl).trans (hL a b ha hb)
  have tN : ∀ {I' : mj_I}, Eqf FR I I' → I' 73 1 = nI n := fun e => (e 73 1 rfl).trans hn
  intro i
  induction i with
  | zero =>
    intro _ S m R hC hlen K I' x4 x5 e' hW hR
    obtain ⟨c1, c2, c3, c4, c5⟩ := hC
    rw [Nat.sub_zero] at c2 K ⊢
    have hn' := tN e'
    have hW' : ∀ q, q < n → I' 97 q = wI (m q) := fun q hq => by
      rw [hW q hq]
      unfold wth
      rw [c2 q hq]
      rfl
    have fst : ∀ (b : Bool), stb (okA al) li fr n m = b → (rs (okA al) n 0 S m).filter (stb (okA al) li fr n) = if b then [m] else [] := fun b hb => by
      show [m].filter _ = _
      rw [List.filter_cons, hb]
      cases b <;> rfl
    cases hst : stb (okA al) li fr n m with
    | false =>
      rw [fst false hst] at K
      refine q_3 rfl ?_
      first | refine q_ltN0 (by omega) ?_ | refine q_ltI0 (fun hh => absurd hh (by omega)) (fun hh => ?_)
      refine q_3 rfl ?_
      refine q_5 rfl ?_
      first | refine q_31E rfl (by decide) hn' ?_ | refine q_31 rfl (by decide) ?_
      refine q_neN (by omega) (by omega) (fun hh => absurd hh (by omega)) (fun hh => ?_)
      refine q_5 rfl ?_
      refine q_3 rfl ?_
      refine q_47 (mj_ev_mono _) [_] rfl rfl rfl (by decide) rfl rfl rfl ?_
      refine s_251 hP hn' hn10 c4 hW' (tA e') (tL e') ?_
      rw [hst]
      first | refine q_eqN0 (by omega) (fun hh => ?_) (fun hh => absurd hh (by omega)) | refine q_eqI0 (fun hh => ?_) (fun hh => absurd (by decide) hh)
      refine q_0 ?_
      refine q_6 rfl rfl rfl ?_
      refine q_10 rfl rfl rfl ?_
      refine q_23 ?_
      exact K I' _ _ e' hW (by rw [if_neg (by decide), List.append_nil]; exact hR)
    | true =>
      rw [fst true hst, if_pos rfl] at K
      have hl1 : R.length + 1 < 2 ^ 31 := hlen
      refine q_3 rfl ?_
      first | refine q_ltN0 (by omega) ?_ | refine q_ltI0 (fun hh => absurd hh (by omega)) (fun hh => ?_)
      refine q_3 rfl ?_
      refine q_5 rfl ?_
      first | refine q_31E rfl (by decide) hn' ?_ | refine q_31 rfl (by decide) ?_
      refine q_neN (by omega) (by omega) (fun hh => absurd hh (by omega)) (fun hh => ?_)
      refine q_5 rfl ?_
      refine q_3 rfl ?_
      refine q_47 (mj_ev_mono _) [_] rfl rfl rfl (by decide) rfl rfl rfl ?_
      refine s_251 hP hn' hn10 c4 hW' (tA e') (tL e') ?_
      rw [hst]
      first | refine q_eqN0 (by omega) (fun hh => absurd hh (by omega)) (fun hh => ?_) | refine q_eqI0 (fun hh => absurd hh (by decide)) (fun hh => ?_)
      refine q_5 rfl ?_
      refine q_47 (mj_ev_mono _) [] rfl rfl rfl (by decide) rfl rfl rfl ?_
      refine s_252 hP hn' hn10 c4 hW' hR hl1 (fun I2 e2 hR2 => ?_)
      refine q_0 ?_
      refine q_6 rfl rfl rfl ?_
      refine q_10 rfl rfl rfl ?_
      refine q_23 ?_
      exact K I2 _ _ (e'.tr (e2.mono (fun c j q => by unfold FR at q; simp only [Bool.or_eq_false_iff] at q ⊢; exact ⟨⟨q.1.1.2, q.1.2⟩, q.2⟩))) (fun q hq => by rw [e2 97 q rfl]; exact hW q hq) hR2
  | succ i ih =>
    intro hi S m R hC hlen K I' x4 x5 e' hW hR
    have hp : n - (i + 1) < n := by omega
    generalize hpe : n - (i + 1) = p at *
    have hpi : n - i = p + 1 := by omega
    have hpe2 : n - 1 - i = p := by omega
    rw [hpi] at ih
    have erec : rs (okA al) n (i + 1) S m = if S p = true then rsc (rs (okA al) n i) (okA al) n S m p n ++ rs (okA al) n i (sm S p) m else rs (okA al) n i S m := by
      show (if S (n - 1 - i) = true then rsc (rs (okA al) n i) (okA al) n S m (n - 1 - i) n ++ rs (okA al) n i (sm S (n - 1 - i)) m else rs (okA al) n i S m) = _
      rw [hpe2]
    rw [erec] at hlen K
    have hn' := tN e'
    have wp := hW p hp
    cases hSp : S p with
    | false =>
      rw [hSp, if_neg (by decide)] at hlen K
      have wp' : ∀ I2, WH n S m I2 → I2 97 p = wI (m p) := fun I2 z => by
        rw [z p hp]
        unfold wth
        rw [hSp]
        rfl
      -- backward over p
      have back : ∀ I2 y4 y5, Eqf FR I I2 → WH n S m I2 → RA n (R ++ (rs (okA al) n i S m).filter (stb (okA al) li fr n)) I2 → mj_run (mj_ev (d + 2)) k254 Q (k254 67) [some (.ref 73), some (.int (nI (maskF fr n))), some (.int (nI (p + 1) - nI 1)), some (.int (nI 0)), y4, y5] [] (107, I2, L, P) 0 0 := by
        intro I2 y4 y5 e2 hW2 hR2
        have hn2 := tN e2
        have w2 := wp' I2 hW2
        rw [pk_sub (by omega), Nat.add_sub_cancel]
        cases hfr : fr p with
        | false =>
          refine q_3 rfl ?_
          first | refine q_ltN0 (by omega) ?_ | refine q_ltI0 (fun hh => absurd hh (by omega)) (fun hh => ?_)
          refine q_3 rfl ?_
          refine q_5 rfl ?_
          first | refine q_31E rfl (by decide) hn2 ?_ | refine q_31 rfl (by decide) ?_
          refine q_neN (by omega) (by omega) (fun hh => ?_) (fun hh => absurd hh (by omega))
          refine q_3 rfl ?_
          refine q_3 rfl ?_
          first | refine q_bitT (by assumption) (by omega) (by omega) ?_ | refine q_bitF (by assumption) (by omega) (by omega) ?_ | refine q_bit (by omega) (by omega) ?_ | refine q_bitM (by first | omega | assumption) (by omega) ?_
          first | refine q_eqN0 (by omega) (fun hh => ?_) (fun hh => absurd hh (by omega)) | refine q_eqI0 (fun hh => ?_) (fun hh => absurd (by omega) hh)
          refine q_3 rfl ?_
          refine q_3 rfl ?_
          first | refine q_eqN0 (by omega) (fun hh => ?_) (fun hh => absurd hh (by omega)) | refine q_eqI0 (fun hh => ?_) (fun hh => absurd (by omega) hh)
          refine q_1 ?_
          refine q_11 rfl ?_
          refine q_6 rfl rfl rfl ?_
          refine q_23 ?_
          rw [show nI p + -(nI 1) = nI p - nI 1 from (Int32.sub_eq_add_neg ..).symm]
          exact K I2 _ _ e2 hW2 hR2
        | true =>
          obtain ⟨r, hr, hmr⟩ := hC.2.2.1 p (Nat.le_refl _) hp hfr hSp
          rw [hmr] at w2
          have w2' : I2 97 p = nI r := w2
          refine q_3 rfl ?_
          first | refine q_ltN0 (by omega) ?_ | refine q_ltI0 (fun hh => absurd hh (by omega)) (fun hh => ?_)
          refine q_3 rfl ?_
          refine q_5 rfl ?_
          first | refine q_31E rfl (by decide) hn2 ?_ | refine q_31 rfl (by decide) ?_
          refine q_neN (by omega) (by omega) (fun hh => ?_) (fun hh => absurd hh (by omega))
          refine q_3 rfl ?_
          refine q_3 rfl ?_
          first | refine q_bitT (by assumption) (by omega) (by omega) ?_ | refine q_bitF (by assumption) (by omega) (by omega) ?_ | refine q_bit (by omega) (by omega) ?_ | refine q_bitM (by first | omega | assumption) (by omega) ?_
          first | refine q_eqN0 (by omega) (fun hh => absurd hh (by omega)) (fun hh => ?_) | refine q_eqI0 (fun hh => absurd hh (by omega)) (fun hh => ?_)
          refine q_5 rfl ?_
          refine q_33 rfl (by decide) (hP _ _ _ rfl) ?_
          refine q_3 rfl ?_
          first | refine q_38E _ rfl (by decide) rfl (by show _ < 10; omega) (by decide) (w2') ?_ | refine q_38 _ rfl (by decide) rfl (by show _ < 10; omega) (by decide) ?_
          refine q_1 ?_
          refine q_eqI (fun z => absurd z (mI_ne (by omega))) (fun _ => ?_)
          refine q_5 rfl ?_
          refine q_33 rfl (by decide) (hP _ _ _ rfl) ?_
          refine q_3 rfl ?_
          first | refine q_38E _ rfl (by decide) rfl (by show _ < 10; omega) (by decide) (w2') ?_ | refine q_38 _ rfl (by decide) rfl (by show _ < 10; omega) (by decide) ?_
          refine q_3 rfl ?_
          refine q_geN (by omega) (by omega) (fun hh => absurd hh (by omega)) (fun hh => ?_)
          refine q_3 rfl ?_
          refine q_3 rfl ?_
          first | refine q_eqN0 (by omega) (fun hh => ?_) (fun hh => absurd hh (by omega)) | refine q_eqI0 (fun hh => ?_) (fun hh => absurd (by omega) hh)
          refine q_1 ?_
          refine q_11 rfl ?_
          refine q_6 rfl rfl rfl ?_
          refine q_23 ?_
          rw [show nI p + -(nI 1) = nI p - nI 1 from (Int32.sub_eq_add_neg ..).symm]
          exact K I2 _ _ e2 hW2 hR2
      have fwd := ih (by omega) S m R (hC.skip hSp) hlen back
      have w1 := wp' I' hW
      cases hfr : fr p with
      | false =>
        refine q_3 rfl ?_
        first | refine q_ltN0 (by omega) ?_ | refine q_ltI0 (fun hh => absurd hh (by omega)) (fun hh => ?_)
        refine q_3 rfl ?_
        refine q_5 rfl ?_
        first | refine q_31E rfl (by decide) hn' ?_ | refine q_31 rfl (by decide) ?_
        refine q_neN (by omega) (by omega) (fun hh => ?_) (fun hh => absurd hh (by omega))
        refine q_3 rfl ?_
        refine q_3 rfl ?_
        first | refine q_bitT (by assumption) (by omega) (by omega) ?_ | refine q_bitF (by assumption) (by omega) (by omega) ?_ | refine q_bit (by omega) (by omega) ?_ | refine q_bitM (by first | omega | assumption) (by omega) ?_
        first | refine q_eqN0 (by omega) (fun hh => ?_) (fun hh => absurd hh (by omega)) | refine q_eqI0 (fun hh => ?_) (fun hh => absurd (by omega) hh)
        refine q_3 rfl ?_
        refine q_3 rfl ?_
        first | refine q_eqN0 (by omega) (fun hh => absurd hh (by omega)) (fun hh => ?_) | refine q_eqI0 (fun hh => absurd hh (by omega)) (fun hh => ?_)
        refine q_0 ?_
        refine q_23 ?_
        first | refine q_add ?_ | refine q_11 rfl ?_
        refine q_6 rfl rfl rfl ?_
        refine q_23 ?_
        exact fwd I' _ _ e' hW hR
      | true =>
        obtain ⟨r, hr, hmr⟩ := hC.2.2.1 p (Nat.le_refl _) hp hfr hSp
        rw [hmr] at w1
        have w1' : I' 97 p = nI r := w1
        refine q_3 rfl ?_
        first | refine q_ltN0 (by omega) ?_ | refine q_ltI0 (fun hh => absurd hh (by omega)) (fun hh => ?_)
        refine q_3 rfl ?_
        refine q_5 rfl ?_
        first | refine q_31E rfl (by decide) hn' ?_ | refine q_31 rfl (by decide) ?_
        refine q_neN (by omega) (by omega) (fun hh => ?_) (fun hh => absurd hh (by omega))
        refine q_3 rfl ?_
        refine q_3 rfl ?_
        first | refine q_bitT (by assumption) (by omega) (by omega) ?_ | refine q_bitF (by assumption) (by omega) (by omega) ?_ | refine q_bit (by omega) (by omega) ?_ | refine q_bitM (by first | omega | assumption) (by omega) ?_
        first | refine q_eqN0 (by omega) (fun hh => absurd hh (by omega)) (fun hh => ?_) | refine q_eqI0 (fun hh => absurd hh (by omega)) (fun hh => ?_)
        refine q_5 rfl ?_
        refine q_33 rfl (by decide) (hP _ _ _ rfl) ?_
        refine q_3 rfl ?_
        first | refine q_38E _ rfl (by decide) rfl (by show _ < 10; omega) (by decide) (w1') ?_ | refine q_38 _ rfl (by decide) rfl (by show _ < 10; omega) (by decide) ?_
        refine q_1 ?_
        refine q_eqI (fun z => absurd z (mI_ne (by omega))) (fun _ => ?_)
        refine q_5 rfl ?_
        refine q_33 rfl (by decide) (hP _ _ _ rfl) ?_
        refine q_3 rfl ?_
        first | refine q_38E _ rfl (by decide) rfl (by show _ < 10; omega) (by decide) (w1') ?_ | refine q_38 _ rfl (by decide) rfl (by show _ < 10; omega) (by decide) ?_
        refine q_3 rfl ?_
        refine q_geN (by omega) (by omega) (fun hh => absurd hh (by omega)) (fun hh => ?_)
        refine q_3 rfl ?_
        refine q_3 rfl ?_
        first | refine q_eqN0 (by omega) (fun hh => absurd hh (by omega)) (fun hh => ?_) | refine q_eqI0 (fun hh => absurd hh (by omega)) (fun hh => ?_)
        refine q_0 ?_
        refine q_23 ?_
        first | refine q_add ?_ | refine q_11 rfl ?_
        refine q_6 rfl rfl rfl ?_
        refine q_23 ?_
        exact fwd I' _ _ e' hW hR
    | true =>
      rw [hSp, if_pos rfl] at hlen K
      have hfr : fr p = true := hC.1 p hp hSp
      have hmp : m p = none := hC.2.2.2.2 p hp hSp
      -- candidates from f on
      have CL : ∀ f, f ≤ n → ∀ (R : List MM), R.length + (rsc (rs (okA al) n i) (okA al) n S m p (n - f) ++ rs (okA al) n i (sm S p) m).length < 2 ^ 31 →
          (∀ I' x4 x5, Eqf FR I I' → WH n S m I' → RA n (R ++ (rsc (rs (okA al) n i) (okA al) n S m p (n - f) ++ rs (okA al) n i (sm S p) m).filter (stb (okA al) li fr n)) I' → mj_run (mj_ev (d + 2)) k254 Q (k254 67) [some (.ref 73), some (.int (nI (maskF fr n))), some (.int (nI p - nI 1)), some (.int (nI 0)), x4, x5] [] (107, I', L, P) 0 0) →
          ∀ I' on x4 x5, Eqf FR I I' → WH n S m I' → RA n R I' → mj_run (mj_ev (d + 2)) k254 Q (k254 209) [some (.ref 73), some (.int (nI (maskF fr n))), some (.int (nI p)), some (.int on), some (.int x4), x5] [.int (nI f), .int (nI p), .ref 73] (107, I', L, P) 0 0 := by
        have main : ∀ j f, n - f = j → f ≤ n → ∀ (R : List MM), R.length + (rsc (rs (okA al) n i) (okA al) n S m p (n - f) ++ rs (okA al) n i (sm S p) m).length < 2 ^ 31 →
          (∀ I' x4 x5, Eqf FR I I' → WH n S m I' → RA n (R ++ (rsc (rs (okA al) n i) (okA al) n S m p (n - f) ++ rs (okA al) n i (sm S p) m).filter (stb (okA al) li fr n)) I' → mj_run (mj_ev (d + 2)) k254 Q (k254 67) [some (.ref 73), some (.int (nI (maskF fr n))), some (.int (nI p - nI 1)), some (.int (nI 0)), x4, x5] [] (107, I', L, P) 0 0) →
          ∀ I' on x4 x5, Eqf FR I I' → WH n S m I' → RA n R I' → mj_run (mj_ev (d + 2)) k254 Q (k254 209) [some (.ref 73), some (.int (nI (maskF fr n))), some (.int (nI p)), some (.int on), some (.int x4), x5] [.int (nI f), .int (nI p), .ref 73] (107, I', L, P) 0 0 := by
          intro j
          induction j using Nat.strongRecOn with
          | _ j ihj =>
            intro f hjf hf R hlen K I' on x4 x5 e' hW hR
            have hn' := tN e'
            cases hq : fnd n f (fun q => decide (p < q) && S q && okA al p q) with
            | none =>
              rw [rsc_none hf hq, List.nil_append] at hlen K
              have back : ∀ I2 y4 y5, Eqf FR I I2 → WH n (sm S p) m I2 → RA n (R ++ (rs (okA al) n i (sm S p) m).filter (stb (okA al) li fr n)) I2 → mj_run (mj_ev (d + 2)) k254 Q (k254 67) [some (.ref 73), some (.int (nI (maskF fr n))), some (.int (nI (p + 1) - nI 1)), some (.int (nI 0)), y4, y5] [] (107, I2, L, P) 0 0 := by
                intro I2 y4 y5 e2 hW2 hR2
                have hn2 := tN e2
                have w2 : I2 97 p = nI 10 := by
                  rw [hW2 p hp]
                  unfold wth sm
                  rw [hmp]
                  simp [wI]
                rw [pk_sub (by omega), Nat.add_sub_cancel]
                refine q_3 rfl ?_
                first | refine q_ltN0 (by omega) ?_ | refine q_ltI0 (fun hh => absurd hh (by omega)) (fun hh => ?_)
                refine q_3 rfl ?_
                refine q_5 rfl ?_
                first | refine q_31E rfl (by decide) hn2 ?_ | refine q_31 rfl (by decide) ?_
                refine q_neN (by omega) (by omega) (fun hh => ?_) (fun hh => absurd hh (by omega))
                refine q_3 rfl ?_
                refine q_3 rfl ?_
                first | refine q_bitT (by assumption) (by omega) (by omega) ?_ | refine q_bitF (by assumption) (by omega) (by omega) ?_ | refine q_bit (by omega) (by omega) ?_ | refine q_bitM (by first | omega | assumption) (by omega) ?_
                first | refine q_eqN0 (by omega) (fun hh => absurd hh (by omega)) (fun hh => ?_) | refine q_eqI0 (fun hh => absurd hh (by omega)) (fun hh => ?_)
                refine q_5 rfl ?_
                refine q_33 rfl (by decide) (hP _ _ _ rfl) ?_
                refine q_3 rfl ?_
                first | refine q_38E _ rfl (by decide) rfl (by show _ < 10; omega) (by decide) (w2) ?_ | refine q_38 _ rfl (by decide) rfl (by show _ < 10; omega) (by decide) ?_
                refine q_1 ?_
                refine q_eqI (fun z => absurd z (mI_ne (by omega))) (fun _ => ?_)
                refine q_5 rfl ?_
                refine q_33 rfl (by decide) (hP _ _ _ rfl) ?_
                refine q_3 rfl ?_
                first | refine q_38E _ rfl (by decide) rfl (by show _ < 10; omega) (by decide) (w2) ?_ | refine q_38 _ rfl (by decide) rfl (by show _ < 10; omega) (by decide) ?_
                refine q_3 rfl ?_
                refine q_geN (by omega) (by omega) (fun hh => ?_) (fun hh => absurd hh (by omega))
                refine q_5 rfl ?_
                refine q_33 rfl (by decide) (hP _ _ _ rfl) ?_
                refine q_3 rfl ?_
                first | refine q_38E _ rfl (by decide) rfl (by show _ < 10; omega) (by decide) (w2) ?_ | refine q_38 _ rfl (by decide) rfl (by show _ < 10; omega) (by decide) ?_
                refine q_6 rfl rfl rfl ?_
                refine q_3 rfl ?_
                refine q_1 ?_
                refine q_eqI (fun z => absurd z (mI_ne (by omega))) (fun _ => ?_)
                refine q_3 rfl ?_
                refine q_0 ?_
                refine q_eqN (by omega) (by omega) (fun hh => ?_) (fun hh => absurd hh (by omega))
                refine q_5 rfl ?_
                refine q_33 rfl (by decide) (hP _ _ _ rfl) ?_
                refine q_3 rfl ?_
                refine q_1 ?_
                refine q_42 _ rfl (by decide) rfl (by show _ < 10; omega) (by decide) ?_
                refine q_3 rfl ?_
                first | refine q_neN0 (by omega) (fun hh => absurd hh (by omega)) (fun hh => ?_) | refine q_neI0 (fun hh => absurd hh (by omega)) (fun hh => ?_)
                refine q_3 rfl ?_
                refine q_0 ?_
                refine q_neN (by omega) (by omega) (fun hh => absurd hh (by omega)) (fun hh => ?_)
                refine q_10 rfl rfl rfl ?_
                refine q_23 ?_
                refine q_23 ?_
                exact K _ _ _ (e2.up rfl) (hW2.back0 hSp) hR2
              refine q_3 rfl ?_
              refine q_47 (mj_ev_mono _) [_, _, _] rfl rfl rfl (by decide) rfl rfl rfl ?_
              refine s_253 (S := S) (m := m) hP hn' hn10 hp (by omega) hW (fun q hq r hr => (hC.2.2.2.1 q hq r hr).1) hC.1 (tA e') ?_
              rw [hq]
              refine q_6 rfl rfl rfl ?_
              refine q_5 rfl ?_
              refine q_33 rfl (by decide) (hP _ _ _ rfl) ?_
              refine q_3 rfl ?_
              refine q_3 rfl ?_
              refine q_42 _ rfl (by decide) rfl (by show _ < 10; omega) (by decide) ?_
              refine q_3 rfl ?_
              refine q_0 ?_
              refine q_eqN (by omega) (by omega) (fun hh => ?_) (fun hh => absurd hh (by omega))
              refine q_0 ?_
              refine q_6 rfl rfl rfl ?_
              first | refine q_inc rfl rfl rfl ?_ | refine q_9 rfl rfl rfl ?_
              refine q_23 ?_
              exact ih (by omega) (sm S p) m R hC.none hlen back _ _ _ (e'.up rfl) (hW.no hmp) hR
            | some q =>
              obtain ⟨g1, g2, g3, -⟩ := fnd_some hq
              simp only [Bool.and_eq_true, decide_eq_true_eq] at g3
              have hpq := g3.1.1
              have hSq := g3.1.2
              rw [rsc_some hq, List.append_assoc, List.length_append] at hlen
              have K2 : ∀ I' x4 x5, Eqf FR I I' → WH n S m I' → RA n ((R ++ (rs (okA al) n i (sm (sm S p) q) (bnd m p q)).filter (stb (okA al) li fr n)) ++ (rsc (rs (okA al) n i) (okA al) n S m p (n - (q + 1)) ++ rs (okA al) n i (sm S p) m).filter (stb (okA al) li fr n)) I' → mj_run (mj_ev (d + 2)) k254 Q (k254 67) [some (.ref 73), some (.int (nI (maskF fr n))), some (.int (nI p - nI 1)), some (.int (nI 0)), x4, x5] [] (107, I', L, P) 0 0 := by
                intro I3 y4 y5 e3 hW3 hR3
                refine K I3 y4 y5 e3 hW3 ?_
                rw [rsc_some hq, List.append_assoc, List.filter_append, ← List.append_assoc]
                exact hR3
              have hfl : ((rs (okA al) n i (sm (sm S p) q) (bnd m p q)).filter (stb (okA al) li fr n)).length ≤ (rs (okA al) n i (sm (sm S p) q) (bnd m p q)).length := List.length_filter_le _ _
              have back : ∀ I2 y4 y5, Eqf FR I I2 → WH n (sm (sm S p) q) (bnd m p q) I2 → RA n (R ++ (rs (okA al) n i (sm (sm S p) q) (bnd m p q)).filter (stb (okA al) li fr n)) I2 → mj_run (mj_ev (d + 2)) k254 Q (k254 67) [some (.ref 73), some (.int (nI (maskF fr n))), some (.int (nI (p + 1) - nI 1)), some (.int (nI 0)), y4, y5] [] (107, I2, L, P) 0 0 := by
                intro I2 y4 y5 e2 hW2 hR2
                have hn2 := tN e2
                have w2 : I2 97 p = nI q := by
                  rw [hW2 p hp]
                  unfold wth sm bnd
                  simp [wI, show ¬ p = q by omega]
                have next := ihj (n - (q + 1)) (by omega) (q + 1) rfl (by omega) (R ++ (rs (okA al) n i (sm (sm S p) q) (bnd m p q)).filter (stb (okA al) li fr n)) (by rw [List.length_append]; omega) K2
                rw [pk_sub (by omega), Nat.add_sub_cancel]
                refine q_3 rfl ?_
                first | refine q_ltN0 (by omega) ?_ | refine q_ltI0 (fun hh => absurd hh (by omega)) (fun hh => ?_)
                refine q_3 rfl ?_
                refine q_5 rfl ?_
                first | refine q_31E rfl (by decide) hn2 ?_ | refine q_31 rfl (by decide) ?_
                refine q_neN (by omega) (by omega) (fun hh => ?_) (fun hh => absurd hh (by omega))
                refine q_3 rfl ?_
                refine q_3 rfl ?_
                first | refine q_bitT (by assumption) (by omega) (by omega) ?_ | refine q_bitF (by assumption) (by omega) (by omega) ?_ | refine q_bit (by omega) (by omega) ?_ | refine q_bitM (by first | omega | assumption) (by omega) ?_
                first | refine q_eqN0 (by omega) (fun hh => absurd hh (by omega)) (fun hh => ?_) | refine q_eqI0 (fun hh => absurd hh (by omega)) (fun hh => ?_)
                refine q_5 rfl ?_
                refine q_33 rfl (by decide) (hP _ _ _ rfl) ?_
                refine q_3 rfl ?_
                first | refine q_38E _ rfl (by decide) rfl (by show _ < 10; omega) (by decide) (w2) ?_ | refine q_38 _ rfl (by decide) rfl (by show _ < 10; omega) (by decide) ?_
                refine q_1 ?_
                refine q_eqI (fun z => absurd z (mI_ne (by omega))) (fun _ => ?_)
                refine q_5 rfl ?_
                refine q_33 rfl (by decide) (hP _ _ _ rfl) ?_
                refine q_3 rfl ?_
                first | refine q_38E _ rfl (by decide) rfl (by show _ < 10; omega) (by decide) (w2) ?_ | refine q_38 _ rfl (by decide) rfl (by show _ < 10; omega) (by decide) ?_
                refine q_3 rfl ?_
                refine q_geN (by omega) (by omega) (fun hh => ?_) (fun hh => absurd hh (by omega))
                refine q_5 rfl ?_
                refine q_33 rfl (by decide) (hP _ _ _ rfl) ?_
                refine q_3 rfl ?_
                first | refine q_38E _ rfl (by decide) rfl (by show _ < 10; omega) (by decide) (w2) ?_ | refine q_38 _ rfl (by decide) rfl (by show _ < 10; omega) (by decide) ?_
                refine q_6 rfl rfl rfl ?_
                refine q_3 rfl ?_
                refine q_1 ?_
                refine q_eqI (fun z => absurd z (mI_ne (by omega))) (fun _ => ?_)
                refine q_3 rfl ?_
                refine q_0 ?_
                refine q_eqN (by omega) (by omega) (fun hh => absurd hh (by omega)) (fun hh => ?_)
                refine q_5 rfl ?_
                refine q_33 rfl (by decide) (hP _ _ _ rfl) ?_
                refine q_3 rfl ?_
                refine q_1 ?_
                refine q_42 _ rfl (by decide) rfl (by show _ < 10; omega) (by decide) ?_
                refine q_5 rfl ?_
                refine q_33 rfl (by decide) (hP _ _ _ rfl) ?_
                refine q_3 rfl ?_
                refine q_1 ?_
                refine q_42 _ rfl (by decide) rfl (by show _ < 10; omega) (by decide) ?_
                refine q_3 rfl ?_
                first | refine q_neN0 (by omega) (fun hh => absurd hh (by omega)) (fun hh => ?_) | refine q_neI0 (fun hh => absurd hh (by omega)) (fun hh => ?_)
                refine q_3 rfl ?_
                refine q_0 ?_
                refine q_neN (by omega) (by omega) (fun hh => ?_) (fun hh => absurd hh (by omega))
                refine q_5 rfl ?_
                refine q_3 rfl ?_
                refine q_3 rfl ?_
                first | refine q_eqN0 (by omega) (fun hh => ?_) (fun hh => absurd hh (by omega)) | refine q_eqI0 (fun hh => ?_) (fun hh => absurd (by omega) hh)
                refine q_3 rfl ?_
                refine q_0 ?_
                first | refine q_add ?_ | refine q_11 rfl ?_
                exact next _ _ _ _ ((e2.up rfl).up rfl) (hW2.back hSp hSq) hR2
              refine q_3 rfl ?_
              refine q_47 (mj_ev_mono _) [_, _, _] rfl rfl rfl (by decide) rfl rfl rfl ?_
              refine s_253 (S := S) (m := m) hP hn' hn10 hp (by omega) hW (fun q hq r hr => (hC.2.2.2.1 q hq r hr).1) hC.1 (tA e') ?_
              rw [hq]
              refine q_6 rfl rfl rfl ?_
              refine q_5 rfl ?_
              refine q_33 rfl (by decide) (hP _ _ _ rfl) ?_
              refine q_3 rfl ?_
              refine q_3 rfl ?_
              refine q_42 _ rfl (by decide) rfl (by show _ < 10; omega) (by decide) ?_
              refine q_3 rfl ?_
              refine q_0 ?_
              refine q_eqN (show q < 2 ^ 31 by omega) (by omega) (fun z => absurd z (by omega)) (fun _ => ?_)
              refine q_5 rfl ?_
              refine q_33 rfl (by decide) (hP _ _ _ rfl) ?_
              refine q_3 rfl ?_
              refine q_3 rfl ?_
              refine q_42 q rfl (by decide) rfl (by show _ < 10; omega) (by decide) ?_
              refine q_0 ?_
              refine q_6 rfl rfl rfl ?_
              first | refine q_inc rfl rfl rfl ?_ | refine q_9 rfl rfl rfl ?_
              refine q_23 ?_
              exact ih (by omega) (sm (sm S p) q) (bnd m p q) R (hC.some hp hSp hpq g2 hSq) (by omega) back _ _ _ ((e'.up rfl).up rfl) (hW.set (by omega)) hR
        intro f hf
        exact main (n - f) f rfl hf
      have w1 : I' 97 p = -(nI 1) := by
        rw [wp]
        unfold wth
        rw [hSp]
        rfl
      have W2 : WH n S m (mj_upI I' 97 p (-(nI 1))) := fun x hx => by
        by_cases e : x = p
        · subst e
          rw [upI_s, ← w1]
          exact wp
        · rw [upI_j e]
          exact hW x hx
      have top := CL 0 (by omega) R (by rw [Nat.sub_zero]; exact hlen) (by rw [Nat.sub_zero]; exact K)
      refine q_3 rfl ?_
      first | refine q_ltN0 (by omega) ?_ | refine q_ltI0 (fun hh => absurd hh (by omega)) (fun hh => ?_)
      refine q_3 rfl ?_
      refine q_5 rfl ?_
      first | refine q_31E rfl (by decide) hn' ?_ | refine q_31 rfl (by decide) ?_
      refine q_neN (by omega) (by omega) (fun hh => ?_) (fun hh => absurd hh (by omega))
      refine q_3 rfl ?_
      refine q_3 rfl ?_
      first | refine q_bitT (by assumption) (by omega) (by omega) ?_ | refine q_bitF (by assumption) (by omega) (by omega) ?_ | refine q_bit (by omega) (by omega) ?_ | refine q_bitM (by first | omega | assumption) (by omega) ?_
      first | refine q_eqN0 (by omega) (fun hh => absurd hh (by omega)) (fun hh => ?_) | refine q_eqI0 (fun hh => absurd hh (by omega)) (fun hh => ?_)
      refine q_5 rfl ?_
      refine q_33 rfl (by decide) (hP _ _ _ rfl) ?_
      refine q_3 rfl ?_
      first | refine q_38E _ rfl (by decide) rfl (by show _ < 10; omega) (by decide) (w1) ?_ | refine q_38 _ rfl (by decide) rfl (by show _ < 10; omega) (by decide) ?_
      refine q_1 ?_
      refine q_eqI (fun _ => ?_) (fun z => absurd rfl z)
      refine q_5 rfl ?_
      refine q_33 rfl (by decide) (hP _ _ _ rfl) ?_
      refine q_3 rfl ?_
      first | refine q_38E _ rfl (by decide) rfl (by show _ < 10; omega) (by decide) (w1) ?_ | refine q_38 _ rfl (by decide) rfl (by show _ < 10; omega) (by decide) ?_
      refine q_6 rfl rfl rfl ?_
      refine q_3 rfl ?_
      refine q_1 ?_
      refine q_eqI (fun _ => ?_) (fun z => absurd rfl z)
      refine q_5 rfl ?_
      refine q_33 rfl (by decide) (hP _ _ _ rfl) ?_
      refine q_3 rfl ?_
      refine q_1 ?_
      refine q_42 _ rfl (by decide) rfl (by show _ < 10; omega) (by decide) ?_
      refine q_3 rfl ?_
      first | refine q_neN0 (by omega) (fun hh => ?_) (fun hh => absurd hh (by omega)) | refine q_neI0 (fun hh => ?_) (fun hh => absurd (by omega) hh)
      refine q_5 rfl ?_
      refine q_3 rfl ?_
      refine q_3 rfl ?_
      first | refine q_eqN0 (by omega) (fun hh => absurd hh (by omega)) (fun hh => ?_) | refine q_eqI0 (fun hh => absurd hh (by omega)) (fun hh => ?_)
      refine q_0 ?_
      refine q_23 ?_
      exact top _ _ _ _ (e'.up rfl) W2 hR
end M
section M
variable {I : mj_I} {L : mj_L} {P : mj_P} {Q : mj_Q} {d n r t a b : Nat} {A : AS} {w : WT} {c h : Nat → Nat} {m : MM} {S : Nat → Bool} {al li : Nat → Nat → Int32} {fr : Nat → Bool}
/-- all ways at rest -/
def RS (al li : Nat → Nat → Int32) (fr : Nat → Bool) (n : Nat) : List MM := (rs (okA al) n n fr (fun _ => none)).filter (stb (okA al) li fr n)
theorem s_254 (hP : PS t P) (hn : I 73 1 = nI n) (hn10 : n ≤ 10) (hA : AL al n I) (hL : LK li n I) (k : ∀ I', Eqf FR I I' → RA n (RS al li fr n) I' → Q (.inl none) (107, I', L, P)) : mj_ev (d + 3) 254 [.ref 73, .int (nI (maskF fr n))] (107, I, L, P) Q := by
  refine ⟨rfl, ?_⟩
  have hc0 : CC n 0 fr fr (fun _ => none) := ⟨fun _ _ z => z, fun q hq => absurd hq (by omega), fun q _ _ h1 h2 => (by rw [h1] at h2; cases h2), fun p hp q hq => (by cases hq), fun _ _ _ => rfl⟩
  have hlen : ([] : List MM).length + (rs (okA al) n n fr (fun _ => none)).length < 2 ^ 31 := by
    have h1 := rs_len (ok := okA al) (n := n) n fr (fun _ => none) (Nat.le_refl _)
    have h2 := fct_le n hn10
    show 0 + _ < _
    omega
  have fin : ∀ I' x4 x5, Eqf FR I I' → WH n fr (fun _ => none) I' → RA n ([] ++ (rs (okA al) n n fr (fun _ => none)).filter (stb (okA al) li fr n)) I' → mj_run (mj_ev (d + 2)) k254 Q (k254 67) [some (.ref 73), some (.int (nI (maskF fr n))), some (.int (nI (n - n) - nI 1)), some (.int (nI 0)), x4, x5] [] (107, I', L, P) 0 0 := by
    intro I' x4 x5 e' hW hR
    rw [Nat.sub_self]
    refine q_3 rfl ?_
    refine q_ltI0 (fun hh => ?_) (fun hh => absurd (by decide) hh)
    refine q_25 ?_
    exact k I' e' hR
  have go := g_254 (d := d) (Q := Q) (L := L) hP hn hn10 hA hL n (Nat.le_refl _) fr (fun _ => none) [] (by rw [Nat.sub_self]; exact hc0) hlen fin
  rw [Nat.sub_self] at go
  have L7 : ∀ p, p ≤ 10 → ∀ I', Eqf FR I I' → I' 73 50 = nI 0 → (∀ q, q < p → q < n → I' 97 q = wth fr (fun _ => none) q ∧ I' 98 q = nI 10 ∧ I' 99 q = nI 0) → mj_run (mj_ev (d + 2)) k254 Q (k254 7) [some (.ref 73), some (.int (nI (maskF fr n))), some (.int (nI p)), none, none, none] [] (107, I', L, P) 0 0 := by
    refine loop_up ?_ (fun p hp ih => ?_)
    · intro I' e' h50 z
      refine q_3 rfl ?_
      refine q_0 ?_
      refine q_geN (by omega) (by omega) (fun hh => ?_) (fun hh => absurd hh (by omega))
      refine q_0 ?_
      refine q_6 rfl rfl rfl ?_
      refine q_0 ?_
      refine q_6 rfl rfl rfl ?_
      exact go I' _ _ e' (fun q hq => (z q (by omega) hq).1) ⟨h50, fun q hq => (z q (by omega) hq).2.1, fun q hq => ((z q (by omega) hq).2.2).trans (congrArg nI (mask_none n))⟩
    · intro I' e' h50 z
      have fin2 : ∀ v, (p < n → v = wth fr (fun _ => none) p) → mj_run (mj_ev (d + 2)) k254 Q (k254 7) [some (.ref 73), some (.int (nI (maskF fr n))), some (.int (nI (p + 1))), none, none, none] [] (107, mj_upI (mj_upI (mj_upI I' 97 p v) 98 p (nI 10)) 99 p (nI 0), L, P) 0 0 := by
        intro v hv
        refine ih _ (((e'.up rfl).up rfl).up rfl) h50 (fun q hq hqn => ?_)
        by_cases e : q = p
        · subst e
          refine ⟨?_, ?_, upI_s⟩
          · rw [upI_c (by decide), upI_c (by decide), upI_s]
            exact hv hqn
          · rw [upI_c (by decide)]
            exact upI_s
        · obtain ⟨z1, z2, z3⟩ := z q (by omega) hqn
          rw [upI_j e, upI_j e, upI_j e, upI_j e, upI_j e, upI_j e, upI_j e, upI_j e, upI_j e]
          exact ⟨z1, z2, z3⟩
      have hn' : I' 73 1 = nI n := (e' 73 1 rfl).trans hn
      rcases Nat.lt_or_ge p n with hpn | hpn
      · cases hf : fr p with
        | true =>
          refine q_3 rfl ?_
          refine q_0 ?_
          refine q_geN (by omega) (by omega) (fun hh => absurd hh (by omega)) (fun hh => ?_)
          refine q_5 rfl ?_
          refine q_33 rfl (by decide) (hP _ _ _ rfl) ?_
          refine q_3 rfl ?_
          refine q_3 rfl ?_
          refine q_5 rfl ?_
          first | refine q_31E rfl (by decide) hn' ?_ | refine q_31 rfl (by decide) ?_
          refine q_geN (by omega) (by omega) (fun hh => absurd hh (by omega)) (fun hh => ?_)
          refine q_3 rfl ?_
          refine q_3 rfl ?_
          first | refine q_bitT (by assumption) (by omega) (by omega) ?_ | refine q_bitF (by assumption) (by omega) (by omega) ?_ | refine q_bit (by omega) (by omega) ?_ | refine q_bitM (by first | omega | assumption) (by omega) ?_
          refine q_0 ?_
          refine q_neN (by omega) (by omega) (fun hh => absurd hh (by omega)) (fun hh => ?_)
          refine q_1 ?_
          refine q_23 ?_
          refine q_42 _ rfl (by decide) rfl (by show _ < 10; omega) (by decide) ?_
          refine q_5 rfl ?_
          refine q_33 rfl (by decide) (hP _ _ _ rfl) ?_
          refine q_3 rfl ?_
          refine q_0 ?_
          refine q_42 _ rfl (by decide) rfl (by show _ < 10; omega) (by decide) ?_
          refine q_5 rfl ?_
          refine q_33 rfl (by decide) (hP _ _ _ rfl) ?_
          refine q_3 rfl ?_
          refine q_0 ?_
          refine q_42 _ rfl (by decide) rfl (by show _ < 10; omega) (by decide) ?_
          first | refine q_inc rfl rfl rfl ?_ | refine q_9 rfl rfl rfl ?_
          refine q_23 ?_
          exact fin2 _ (fun _ => by unfold wth; rw [hf]; rfl)
        | false =>
          refine q_3 rfl ?_
          refine q_0 ?_
          refine q_geN (by omega) (by omega) (fun hh => absurd hh (by omega)) (fun hh => ?_)
          refine q_5 rfl ?_
          refine q_33 rfl (by decide) (hP _ _ _ rfl) ?_
          refine q_3 rfl ?_
          refine q_3 rfl ?_
          refine q_5 rfl ?_
          first | refine q_31E rfl (by decide) hn' ?_ | refine q_31 rfl (by decide) ?_
          refine q_geN (by omega) (by omega) (fun hh => absurd hh (by omega)) (fun hh => ?_)
          refine q_3 rfl ?_
          refine q_3 rfl ?_
          first | refine q_bitT (by assumption) (by omega) (by omega) ?_ | refine q_bitF (by assumption) (by omega) (by omega) ?_ | refine q_bit (by omega) (by omega) ?_ | refine q_bitM (by first | omega | assumption) (by omega) ?_
          refine q_0 ?_
          refine q_neN (by omega) (by omega) (fun hh => ?_) (fun hh => absurd hh (by omega))
          refine q_0 ?_
          refine q_42 _ rfl (by decide) rfl (by show _ < 10; omega) (by decide) ?_
          refine q_5 rfl ?_
          refine q_33 rfl (by decide) (hP _ _ _ rfl) ?_
          refine q_3 rfl ?_
          refine q_0 ?_
          refine q_42 _ rfl (by decide) rfl (by show _ < 10; omega) (by decide) ?_
          refine q_5 rfl ?_
          refine q_33 rfl (by decide) (hP _ _ _ rfl) ?_
          refine q_3 rfl ?_
          refine q_0 ?_
          refine q_42 _ rfl (by decide) rfl (by show _ < 10; omega) (by decide) ?_
          first | refine q_inc rfl rfl rfl ?_ | refine q_9 rfl rfl rfl ?_
          refine q_23 ?_
          exact fin2 _ (fun _ => by unfold wth; rw [hf]; rfl)
      · refine q_3 rfl ?_
        refine q_0 ?_
        refine q_geN (by omega) (by omega) (fun hh => absurd hh (by omega)) (fun hh => ?_)
        refine q_5 rfl ?_
        refine q_33 rfl (by decide) (hP _ _ _ rfl) ?_
        refine q_3 rfl ?_
        refine q_3 rfl ?_
        refine q_5 rfl ?_
        first | refine q_31E rfl (by decide) hn' ?_ | refine q_31 rfl (by decide) ?_
        refine q_geN (by omega) (by omega) (fun hh => ?_) (fun hh => absurd hh (by omega))
        refine q_0 ?_
        refine q_42 _ rfl (by decide) rfl (by show _ < 10; omega) (by decide) ?_
        refine q_5 rfl ?_
        refine q_33 rfl (by decide) (hP _ _ _ rfl) ?_
        refine q_3 rfl ?_
        refine q_0 ?_
        refine q_42 _ rfl (by decide) rfl (by show _ < 10; omega) (by decide) ?_
        refine q_5 rfl ?_
        refine q_33 rfl (by decide) (hP _ _ _ rfl) ?_
        refine q_3 rfl ?_
        refine q_0 ?_
        refine q_42 _ rfl (by decide) rfl (by show _ < 10; omega) (by decide) ?_
        first | refine q_inc rfl rfl rfl ?_ | refine q_9 rfl rfl rfl ?_
        refine q_23 ?_
        exact fin2 _ (fun z => absurd z (by omega))
  show mj_run (mj_ev (d + 2)) k254 Q (k254 0) [some (.ref 73), some (.int (nI (maskF fr n))), none, none, none, none] [] (107, I, L, P) 0 0
  refine q_5 rfl ?_
  refine q_0 ?_
  refine q_34 rfl (by decide) ?_
  refine q_0 ?_
  refine q_6 rfl rfl rfl ?_
  exact L7 0 (by omega) _ (Eqf.rf.up rfl) upI_s (fun q hq => absurd hq (by omega))
def FZ (c j : Nat) : Bool := FW c j || FR c j || c == 96
theorem FZ_fm {I I' : mj_I} (e : Eqf FZ I I') : Eqf FM I I' := e.mono (fun c j q => by
  rw [← Bool.not_eq_true] at q ⊢
  intro q2
  apply q
  unfold FZ FW FR at q2
  simp only [Bool.or_eq_true] at q2
  rcases q2 with ((((q3 | q3) | q3) | q3) | (((q3 | q3) | q3) | q3)) | q3
  · obtain rfl := eq_of_beq q3
    rfl
  · obtain rfl := eq_of_beq q3
    rfl
  · obtain rfl := eq_of_beq q3
    rfl
  · rw [Bool.and_eq_true] at q3
    obtain rfl := eq_of_beq q3.1
    unfold FM pers
    simp at q3
    simp [q3]
  · obtain rfl := eq_of_beq q3
    rfl
  · obtain rfl := eq_of_beq q3
    rfl
  · obtain rfl := eq_of_beq q3
    rfl
  · rw [Bool.and_eq_true] at q3
    obtain rfl := eq_of_beq q3.1
    obtain rfl := eq_of_beq q3.2
    rfl
  · obtain rfl := eq_of_beq q3
    rfl)
theorem FZ_w {I I' : mj_I} (e : Eqf FW I I') : Eqf FZ I I' := e.mono (fun c j q => by
  unfold FZ at q
  simp only [Bool.or_eq_false_iff] at q
  exact q.1.1)
theorem FZ_r {I I' : mj_I} (e : Eqf FR I I') : Eqf FZ I I' := e.mono (fun c j q => by
  unfold FZ at q
  simp only [Bool.or_eq_false_iff] at q
  exact q.1.2)
theorem MT.fz {w : WT} {I I' : mj_I} (h : MT w I) (e : Eqf FZ I I') : MT w I' := h.fr e (fun _ => ⟨rfl, rfl, rfl, rfl, rfl, rfl, rfl, rfl⟩)
theorem RW.fz {n r : Nat} {c h : Nat → Nat} {m : MM} {I I' : mj_I} (hR : RW n r c h m I) (e : Eqf FZ I I') : RW n r c h m I' := hR.fr e (fun _ _ _ => rfl)
def sRS (A : AS) : List MM := RS (alk A.w A.c A.h) (lik A.w A.c A.h) (frs A.m) A.w.n
theorem s_255 (hP : PS t P) (hS : MS A I L) (k : ∀ I' L', Eqf FZ I I' → EqL FWL L L' → RA A.w.n (sRS A) I' → Q (.inl none) (107, I', L', P)) : mj_ev (d + 6) 255 [.ref 73] (107, I, L, P) Q := by
  refine ⟨rfl, ?_⟩
  have hn10 := hS.n10
  have L8 : ∀ L1, EqL FWL L L1 → ∀ a, a ≤ A.w.n → ∀ I' x3, Eqf FZ I I' → AL (alk A.w A.c A.h) A.w.n I' → (∀ x y, x < A.w.n → y < A.w.n → x < a → I' 96 (10 * x + y) = if x = y then nI 0 else lik A.w A.c A.h x y) → mj_run (mj_ev (d + 5)) k255 Q (k255 8) [some (.ref 73), some (.int (nI (maskF (frs A.m) A.w.n))), some (.int (nI a)), x3] [] (107, I', L1, P) 0 0 := by
    intro L1 eL1
    refine loop_up ?_ (fun a ha ih => ?_)
    · intro I' x3 e' hA hK
      have hn' := (hS.mt.fz e').hn
      refine q_3 rfl ?_
      refine q_5 rfl ?_
      first | refine q_31E rfl (by decide) hn' ?_ | refine q_31 rfl (by decide) ?_
      refine q_geN (by omega) (by omega) (fun hh => ?_) (fun hh => absurd hh (by omega))
      refine q_5 rfl ?_
      refine q_3 rfl ?_
      refine q_47 (mj_ev_mono _) [_] rfl rfl rfl (by decide) rfl rfl rfl ?_
      refine s_254 hP hn' hn10 hA (li := lik A.w A.c A.h) (fun x y hx hy => hK x y hx hy hx) (fun I2 e2 hR2 => ?_)
      refine q_25 ?_
      exact k I2 L1 (e'.tr (FZ_r e2)) eL1 hR2
    · intro I' x3 e' hA hK
      have L18 : ∀ b, b ≤ A.w.n → ∀ I', Eqf FZ I I' → AL (alk A.w A.c A.h) A.w.n I' → (∀ x y, x < A.w.n → y < A.w.n → (x < a ∨ x = a ∧ y < b) → I' 96 (10 * x + y) = if x = y then nI 0 else lik A.w A.c A.h x y) → mj_run (mj_ev (d + 5)) k255 Q (k255 18) [some (.ref 73), some (.int (nI (maskF (frs A.m) A.w.n))), some (.int (nI a)), some (.int (nI b))] [] (107, I', L1, P) 0 0 := by
        refine loop_up ?_ (fun b hb ih2 => ?_)
        · intro I' e' hA hK
          have hn' := (hS.mt.fz e').hn
          refine q_3 rfl ?_
          refine q_5 rfl ?_
          first | refine q_31E rfl (by decide) hn' ?_ | refine q_31 rfl (by decide) ?_
          refine q_geN (by omega) (by omega) (fun hh => ?_) (fun hh => absurd hh (by omega))
          first | refine q_inc rfl rfl rfl ?_ | refine q_9 rfl rfl rfl ?_
          refine q_23 ?_
          exact ih I' _ e' hA (fun x y hx hy hq => hK x y hx hy (by omega))
        · intro I' e' hA hK
          have hn' := (hS.mt.fz e').hn
          have fin : ∀ I2 v, Eqf FZ I I2 → AL (alk A.w A.c A.h) A.w.n I2 → I2 96 = I' 96 → v = (if a = b then nI 0 else lik A.w A.c A.h a b) → mj_run (mj_ev (d + 5)) k255 Q (k255 18) [some (.ref 73), some (.int (nI (maskF (frs A.m) A.w.n))), some (.int (nI a)), some (.int (nI (b + 1)))] [] (107, mj_upI I2 96 (10 * a + b) v, L1, P) 0 0 := by
            intro I2 v e2 hA2 q93 hv
            refine ih2 _ (e2.up rfl) hA2 (fun x y hx hy hq => ?_)
            by_cases e : x = a ∧ y = b
            · obtain ⟨rfl, rfl⟩ := e
              rw [upI_s, hv]
            · rw [upI_j (by omega), q93]
              exact hK x y hx hy (by omega)
          by_cases hab : a = b
          · subst hab
            refine q_3 rfl ?_
            refine q_5 rfl ?_
            first | refine q_31E rfl (by decide) hn' ?_ | refine q_31 rfl (by decide) ?_
            refine q_geN (by omega) (by omega) (fun hh => absurd hh (by omega)) (fun hh => ?_)
            refine q_5 rfl ?_
            refine q_33 rfl (by decide) (hP _ _ _ rfl) ?_
            refine q_0 ?_
            refine q_3 rfl ?_
            first | refine q_mul ?_ | refine q_11 rfl ?_
            refine q_3 rfl ?_
            first | refine q_add ?_ | refine q_11 rfl ?_
            refine q_3 rfl ?_
            refine q_3 rfl ?_
            refine q_neN (by omega) (by omega) (fun hh => absurd hh (by omega)) (fun hh => ?_)
            refine q_0 ?_
            refine q_23 ?_
            refine q_42 _ rfl (by decide) rfl (by show _ < 100; omega) (by decide) ?_
            first | refine q_inc rfl rfl rfl ?_ | refine q_9 rfl rfl rfl ?_
            refine q_23 ?_
            exact fin I' _ e' hA rfl (by rw [if_pos rfl])
          · refine q_3 rfl ?_
            refine q_5 rfl ?_
            first | refine q_31E rfl (by decide) hn' ?_ | refine q_31 rfl (by decide) ?_
            refine q_geN (by omega) (by omega) (fun hh => absurd hh (by omega)) (fun hh => ?_)
            refine q_5 rfl ?_
            refine q_33 rfl (by decide) (hP _ _ _ rfl) ?_
            refine q_0 ?_
            refine q_3 rfl ?_
            first | refine q_mul ?_ | refine q_11 rfl ?_
            refine q_3 rfl ?_
            first | refine q_add ?_ | refine q_11 rfl ?_
            refine q_3 rfl ?_
            refine q_3 rfl ?_
            refine q_neN (by omega) (by omega) (fun hh => ?_) (fun hh => absurd hh (by omega))
            refine q_5 rfl ?_
            refine q_3 rfl ?_
            refine q_3 rfl ?_
            refine q_47 (mj_ev_mono _) [_, _] rfl rfl rfl (by decide) rfl rfl rfl ?_
            refine s_207 hP (hS.mt.fz e') (hS.rw.fz e') ha hb (fun I2 e2 => ?_)
            refine q_42 _ rfl (by decide) rfl (by show _ < 100; omega) (by decide) ?_
            first | refine q_inc rfl rfl rfl ?_ | refine q_9 rfl rfl rfl ?_
            refine q_23 ?_
            exact fin I2 _ (e'.tr (FZ_w (FW_91 e2))) (fun x y hx hy => (e2 93 _ rfl).trans (hA x y hx hy)) (funext fun j => e2 96 j rfl) (by rw [if_neg hab])
      have hn' := (hS.mt.fz e').hn
      refine q_3 rfl ?_
      refine q_5 rfl ?_
      first | refine q_31E rfl (by decide) hn' ?_ | refine q_31 rfl (by decide) ?_
      refine q_geN (by omega) (by omega) (fun hh => absurd hh (by omega)) (fun hh => ?_)
      refine q_0 ?_
      refine q_6 rfl rfl rfl ?_
      exact L18 0 (by omega) I' e' hA (fun x y hx hy hq => hK x y hx hy (by omega))
  show mj_run (mj_ev (d + 5)) k255 Q (k255 0) [some (.ref 73), none, none, none] [] (107, I, L, P) 0 0
  refine q_5 rfl ?_
  refine q_0 ?_
  refine q_47 (mj_ev_mono _) [_] rfl rfl rfl (by decide) rfl rfl rfl ?_
  refine s_243 hP (by omega) hS.mt hS.rw hS.2.2.2.2.2.2.2.2.2.1 hS.2.2.2.2.2.2.2.2.2.2 (fun I1 L1 e1 eL1 hA hT => ?_)
  refine q_6 rfl rfl rfl ?_
  refine q_0 ?_
  refine q_6 rfl rfl rfl ?_
  exact L8 L1 eL1 0 (by omega) I1 _ (FZ_w e1) hA (fun x y _ _ hq => absurd hq (by omega))
theorem s_256N (hP : PS t P) (hS : MS A I L) (k : kM Q I L P 0 (.int (nI (sRS A).length))) : mj_ev (d + 12) 256 [.ref 73, .int (-(nI 1))] (107, I, L, P) Q := by
  refine ⟨rfl, ?_⟩
  have hS0 := hS.i0
  have hn := hS0.hn
  have hn10 := hS.n10
  show mj_run (mj_ev (d + 11)) k256 Q (k256 0) [some (.ref 73), some (.int (-(nI 1)))] [] (107, I, L, P) 0 0
  refine q_5 rfl ?_
  refine q_0 ?_
  refine q_34 rfl (by decide) ?_
  refine q_5 rfl ?_
  refine q_3 rfl ?_
  refine q_1 ?_
  refine q_ltI (fun z => absurd z (by decide)) (fun _ => ?_)
  refine q_3 rfl ?_
  refine q_5 rfl ?_
  first | refine q_31E rfl (by decide) hn ?_ | refine q_31 rfl (by decide) ?_
  refine q_geI (fun z => absurd (Int32.lt_of_lt_of_le (by decide) (nI_pos' (n := A.w.n) (by omega))) (Int32.not_lt.mpr z)) (fun _ => ?_)
  refine q_0 ?_
  refine q_23 ?_
  refine q_0 ?_
  refine q_47 (mj_ev_mono _) [_, _] rfl rfl rfl (by decide) rfl rfl rfl ?_
  refine s_163T I0_th ?_
  first | refine q_neN0 (by omega) (fun hh => ?_) (fun hh => absurd hh (by omega)) | refine q_neI0 (fun hh => ?_) (fun hh => absurd (by omega) hh)
  refine q_5 rfl ?_
  refine q_47 (mj_ev_mono _) [] rfl rfl rfl (by decide) rfl rfl rfl ?_
  refine s_255 hP hS0 (fun I1 L1 e1 eL1 hR => ?_)
  have v1 := hR.1
  refine q_3 rfl ?_
  refine q_1 ?_
  refine q_neI (fun z => absurd rfl z) (fun _ => ?_)
  refine q_5 rfl ?_
  first | refine q_31E rfl (by decide) v1 ?_ | refine q_31 rfl (by decide) ?_
  refine q_23 ?_
  refine q_26 ?_
  exact k I1 L1 (I0_fm.tr (FZ_fm e1)) (FWL_fl eL1) (e1 73 0 rfl)
theorem s_256 (hP : PS t P) (hS : MS A I L) (ha : a < A.w.n) (hlt : ∀ q, ((sRS A).head?.getD (fun _ => none)) a = some q → q < 10) (k : kM Q I L P 0 (.int (mI (((sRS A).head?.getD (fun _ => none)) a)))) : mj_ev (d + 12) 256 [.ref 73, .int (nI a)] (107, I, L, P) Q := by
  refine ⟨rfl, ?_⟩
  have hS0 := hS.i0
  have hn := hS0.hn
  have hn10 := hS.n10
  show mj_run (mj_ev (d + 11)) k256 Q (k256 0) [some (.ref 73), some (.int (nI a))] [] (107, I, L, P) 0 0
  cases hq : ((sRS A).head?.getD (fun _ => none)) a with
  | none =>
    rw [hq] at k
    refine q_5 rfl ?_
    refine q_0 ?_
    refine q_34 rfl (by decide) ?_
    refine q_5 rfl ?_
    refine q_3 rfl ?_
    refine q_1 ?_
    refine q_ltI (fun z => absurd (Int32.lt_of_lt_of_le z (by decide)) (nI_pos (n := a) (by omega))) (fun _ => ?_)
    refine q_3 rfl ?_
    refine q_5 rfl ?_
    first | refine q_31E rfl (by decide) hn ?_ | refine q_31 rfl (by decide) ?_
    refine q_geN (by omega) (by omega) (fun hh => absurd hh (by omega)) (fun hh => ?_)
    refine q_0 ?_
    refine q_23 ?_
    refine q_0 ?_
    refine q_47 (mj_ev_mono _) [_, _] rfl rfl rfl (by decide) rfl rfl rfl ?_
    refine s_163T I0_th ?_
    first | refine q_neN0 (by omega) (fun hh => ?_) (fun hh => absurd hh (by omega)) | refine q_neI0 (fun hh => ?_) (fun hh => absurd (by omega) hh)
    refine q_5 rfl ?_
    refine q_47 (mj_ev_mono _) [] rfl rfl rfl (by decide) rfl rfl rfl ?_
    refine s_255 hP hS0 (fun I1 L1 e1 eL1 hR => ?_)
    have v1 := hR.2.1 a ha
    rw [hq] at v1
    have v1' : I1 98 a = nI 10 := v1
    refine q_3 rfl ?_
    refine q_1 ?_
    refine q_neI (fun _ => ?_) (fun z => absurd (mI_ne (by omega)) z)
    refine q_5 rfl ?_
    refine q_33 rfl (by decide) (hP _ _ _ rfl) ?_
    refine q_3 rfl ?_
    first | refine q_38E _ rfl (by decide) rfl (by show _ < 10; omega) (by decide) (v1') ?_ | refine q_38 _ rfl (by decide) rfl (by show _ < 10; omega) (by decide) ?_
    refine q_0 ?_
    refine q_neN (by omega) (by omega) (fun hh => absurd hh (by omega)) (fun hh => ?_)
    refine q_1 ?_
    refine q_23 ?_
    refine q_26 ?_
    exact k I1 L1 (I0_fm.tr (FZ_fm e1)) (FWL_fl eL1) (e1 73 0 rfl)
  | some q =>
    rw [hq] at k
    have hq10 := hlt q hq
    refine q_5 rfl ?_
    refine q_0 ?_
    refine q_34 rfl (by decide) ?_
    refine q_5 rfl ?_
    refine q_3 rfl ?_
    refine q_1 ?_
    refine q_ltI (fun z => absurd (Int32.lt_of_lt_of_le z (by decide)) (nI_pos (n := a) (by omega))) (fun _ => ?_)
    refine q_3 rfl ?_
    refine q_5 rfl ?_
    first | refine q_31E rfl (by decide) hn ?_ | refine q_31 rfl (by decide) ?_
    refine q_geN (by omega) (by omega) (fun hh => absurd hh (by omega)) (fun hh => ?_)
    refine q_0 ?_
    refine q_23 ?_
    refine q_0 ?_
    refine q_47 (mj_ev_mono _) [_, _] rfl rfl rfl (by decide) rfl rfl rfl ?_
    refine s_163T I0_th ?_
    first | refine q_neN0 (by omega) (fun hh => ?_) (fun hh => absurd hh (by omega)) | refine q_neI0 (fun hh => ?_) (fun hh => absurd (by omega) hh)
    refine q_5 rfl ?_
    refine q_47 (mj_ev_mono _) [] rfl rfl rfl (by decide) rfl rfl rfl ?_
    refine s_255 hP hS0 (fun I1 L1 e1 eL1 hR => ?_)
    have v1 := hR.2.1 a ha
    rw [hq] at v1
    have v1' : I1 98 a = nI q := v1
    refine q_3 rfl ?_
    refine q_1 ?_
    refine q_neI (fun _ => ?_) (fun z => absurd (mI_ne (by omega)) z)
    refine q_5 rfl ?_
    refine q_33 rfl (by decide) (hP _ _ _ rfl) ?_
    refine q_3 rfl ?_
    first | refine q_38E _ rfl (by decide) rfl (by show _ < 10; omega) (by decide) (v1') ?_ | refine q_38 _ rfl (by decide) rfl (by show _ < 10; omega) (by decide) ?_
    refine q_0 ?_
    refine q_neN (by omega) (by omega) (fun hh => ?_) (fun hh => absurd hh (by omega))
    refine q_5 rfl ?_
    refine q_33 rfl (by decide) (hP _ _ _ rfl) ?_
    refine q_3 rfl ?_
    first | refine q_38E _ rfl (by decide) rfl (by show _ < 10; omega) (by decide) (v1') ?_ | refine q_38 _ rfl (by decide) rfl (by show _ < 10; omega) (by decide) ?_
    refine q_26 ?_
    exact k I1 L1 (I0_fm.tr (FZ_fm e1)) (FWL_fl eL1) (e1 73 0 rfl)
theorem s_256F {x : Int32} (hS : MS A I L) (hx : x < -(nI 1) ∨ nI A.w.n ≤ x) (k : kM Q I L P 1 (.int (nI 0))) : mj_ev (d + 12) 256 [.ref 73, .int x] (107, I, L, P) Q := by
  refine ⟨rfl, ?_⟩
  have hn := hS.i0.hn
  show mj_run (mj_ev (d + 11)) k256 Q (k256 0) [some (.ref 73), some (.int x)] [] (107, I, L, P) 0 0
  refine q_5 rfl ?_
  refine q_0 ?_
  refine q_34 rfl (by decide) ?_
  refine q_5 rfl ?_
  refine q_3 rfl ?_
  refine q_1 ?_
  refine q_ltI (fun h1 => ?_) (fun h1 => ?_)
  · refine q_0 ?_
    refine q_0 ?_
    refine q_47 (mj_ev_mono _) [_, _] rfl rfl rfl (by decide) rfl rfl rfl ?_
    refine s_163F I0_th (by omega) (by omega) ?_
    first | refine q_neN0 (by omega) (fun hh => absurd hh (by omega)) (fun hh => ?_) | refine q_neI0 (fun hh => absurd hh (by omega)) (fun hh => ?_)
    refine q_0 ?_
    refine q_26 ?_
    exact k.bad
  · refine q_3 rfl ?_
    refine q_5 rfl ?_
    first | refine q_31E rfl (by decide) hn ?_ | refine q_31 rfl (by decide) ?_
    refine q_geI (fun h2 => ?_) (fun h2 => absurd (hx.resolve_left h1) h2)
    refine q_0 ?_
    refine q_0 ?_
    refine q_47 (mj_ev_mono _) [_, _] rfl rfl rfl (by decide) rfl rfl rfl ?_
    refine s_163F I0_th (by omega) (by omega) ?_
    first | refine q_neN0 (by omega) (fun hh => absurd hh (by omega)) (fun hh => ?_) | refine q_neI0 (fun hh => absurd hh (by omega)) (fun hh => ?_)
    refine q_0 ?_
    refine q_26 ?_
    exact k.bad
theorem s_257 (hP : PS t P) (hS : MS A I L) (ha : a < A.w.n) (k : kM Q I L P 0 (.int (nI (maskF (inR (sRS A) a) A.w.n)))) : mj_ev (d + 12) 257 [.ref 73, .int (nI a)] (107, I, L, P) Q := by
  refine ⟨rfl, ?_⟩
  have hS0 := hS.i0
  have hn10 := hS.n10
  show mj_run (mj_ev (d + 11)) k257 Q (k257 0) [some (.ref 73), some (.int (nI a))] [] (107, I, L, P) 0 0
  refine q_5 rfl ?_
  refine q_0 ?_
  refine q_34 rfl (by decide) ?_
  refine q_5 rfl ?_
  refine q_3 rfl ?_
  refine q_47 (mj_ev_mono _) [_] rfl rfl rfl (by decide) rfl rfl rfl ?_
  refine s_221T hS0.hn hS.n10 I0_th ha ?_
  first | refine q_neN0 (by omega) (fun hh => ?_) (fun hh => absurd hh (by omega)) | refine q_neI0 (fun hh => ?_) (fun hh => absurd (by omega) hh)
  refine q_5 rfl ?_
  refine q_47 (mj_ev_mono _) [] rfl rfl rfl (by decide) rfl rfl rfl ?_
  refine s_255 hP hS0 (fun I1 L1 e1 eL1 hR => ?_)
  have v1 := hR.2.2 a ha
  refine q_5 rfl ?_
  refine q_33 rfl (by decide) (hP _ _ _ rfl) ?_
  refine q_3 rfl ?_
  first | refine q_38E _ rfl (by decide) rfl (by show _ < 10; omega) (by decide) (v1) ?_ | refine q_38 _ rfl (by decide) rfl (by show _ < 10; omega) (by decide) ?_
  refine q_26 ?_
  exact k I1 L1 (I0_fm.tr (FZ_fm e1)) (FWL_fl eL1) (e1 73 0 rfl)
theorem s_257F {x : Int32} (hS : MS A I L) (hx : x < 0 ∨ nI A.w.n ≤ x) (k : kM Q I L P 1 (.int (nI 0))) : mj_ev (d + 12) 257 [.ref 73, .int x] (107, I, L, P) Q := by
  refine ⟨rfl, ?_⟩
  have hS0 := hS.i0
  show mj_run (mj_ev (d + 11)) k257 Q (k257 0) [some (.ref 73), some (.int x)] [] (107, I, L, P) 0 0
  refine q_5 rfl ?_
  refine q_0 ?_
  refine q_34 rfl (by decide) ?_
  refine q_5 rfl ?_
  refine q_3 rfl ?_
  refine q_47 (mj_ev_mono _) [_] rfl rfl rfl (by decide) rfl rfl rfl ?_
  refine s_221F hS0.hn hS.n10 I0_th hx ?_
  first | refine q_neN0 (by omega) (fun hh => absurd hh (by omega)) (fun hh => ?_) | refine q_neI0 (fun hh => absurd hh (by omega)) (fun hh => ?_)
  refine q_0 ?_
  refine q_26 ?_
  exact k.bad
end M
