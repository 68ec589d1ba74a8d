/-! the model's calls that only tell (2) -/
def wayF (w : WT) (c h : Nat → Nat) (m : MM) (p q x : Nat) (acc : Option (Nat × Nat)) (y : Nat) : Option (Nat × Nat) :=
  if (acc = none ∨ ∃ z, acc = some z ∧ (if x = c p then 0 else 3) + y < z.1) ∧ bal w.n (alk w (fun i => if i = p then x else c i) (fun i => if i = p then h p - y else h i)) w.n m p = some q then some ((if x = c p then 0 else 3) + y, 10 * x + y) else acc
def wayS (w : WT) (c h : Nat → Nat) (m : MM) (p q : Nat) : Option (Nat × Nat) := fld 10 0 (fun acc x => fld (h p + 1) 0 (wayF w c h m p q x) acc) none
theorem fr51 {I I' : mj_I} (e : Eqf (fun c j => frr 33 c j || (c == 73 && j == 51)) I I') : Eqf FM I I' := e.mono (fun c j q => by
  rw [← Bool.not_eq_true] at q ⊢
  intro q2
  apply q
  rw [Bool.or_eq_true] at q2
  rcases q2 with q3 | q3
  · unfold frr at q3
    rw [Bool.or_eq_true, Bool.or_eq_true, Bool.and_eq_true] at q3
    rcases q3 with (h3 | h3) | ⟨h3, h4⟩
    · obtain rfl := eq_of_beq h3
      rfl
    · obtain rfl := eq_of_beq h3
      rfl
    · obtain rfl := eq_of_beq h3
      rw [Bool.and_eq_true] at h4
      exact FM_89i (Nat.le_of_ble_eq_true h4.1)
  · rw [Bool.and_eq_true] at q3
    obtain rfl := eq_of_beq q3.1
    obtain rfl := eq_of_beq q3.2
    rfl)
section M
variable {I : mj_I} {L : mj_L} {P : mj_P} {Q : mj_Q} {d n r t a b : Nat} {A : AS} {w : WT} {c h : Nat → Nat} {m : MM}
theorem s_239 (hP : PS t P) (hW : MT w I) (hR : RW w.n 0 c h m I) (ha : a < w.n) (k : ∀ I', Eqf (frm [91, 92] []) I I' → Q (.inl (some (.int (nI (if tmp w c h m a then 1 else 0))))) (107, I', L, P)) : mj_ev (d + 8) 239 [.ref 73, .int (nI a)] (107, I, L, P) Q := by
  refine ⟨rfl, ?_⟩
  have hn10 := hR.n10
  have L8 : ∀ i, i ≤ w.n → ∀ I', Eqf (frm [91, 92] []) I I' → fnd w.n i (fun q => rth w c h m a q && rth w c h m q a) = fnd w.n 0 (fun q => rth w c h m a q && rth w c h m q a) → mj_run (mj_ev (d + 7)) k239 Q (k239 8) [some (.ref 73), some (.int (nI a)), some (.int (nI (maskF (rth w c h m a) w.n))), some (.int (nI i))] [] (107, I', L, P) 0 0 := by
    refine loop_up ?_ (fun i hi ih => ?_)
    · intro I' e' hf
      have hn := (hW.f91 e').hn
      rw [fnd_end (Nat.le_refl _)] at hf
      refine q_3 rfl ?_
      refine q_5 rfl ?_
      first | refine q_31E rfl (by decide) hn ?_ | refine q_31 rfl (by decide) ?_
      refine q_geN (by omega) (by omega) (fun hh => ?_) (fun hh => absurd hh (by omega))
      refine q_0 ?_
      refine q_27 (by first | exact Or.inl rfl | exact Or.inr rfl | assumption | (split <;> first | exact Or.inl rfl | exact Or.inr rfl)) ?_
      exact kQ (k I' e') (by unfold tmp; rw [← hf]; rfl)
    · intro I' e' hf
      have hn := (hW.f91 e').hn
      cases hq : rth w c h m a i with
      | false =>
        rw [fnd_no hi (by simp [hq])] at hf
        refine q_3 rfl ?_
        refine q_5 rfl ?_
        first | refine q_31E rfl (by decide) hn ?_ | refine q_31 rfl (by decide) ?_
        refine q_geN (by omega) (by omega) (fun hh => absurd hh (by omega)) (fun hh => ?_)
        refine q_3 rfl ?_
        refine q_3 rfl ?_
        first | refine q_bitT (by assumption) (by omega) (by omega) ?_ | refine q_bitF (by assumption) (by omega) (by omega) ?_ | refine q_bit (by omega) (by omega) ?_ | refine q_bitM (by first | omega | assumption) (by omega) ?_
        refine q_0 ?_
        refine q_neN (by omega) (by omega) (fun hh => ?_) (fun hh => absurd hh (by omega))
        first | refine q_inc rfl rfl rfl ?_ | refine q_9 rfl rfl rfl ?_
        refine q_23 ?_
        exact ih I' e' hf
      | true =>
        cases hr : rth w c h m i a with
        | false =>
          rw [fnd_no hi (by simp [hr])] at hf
          refine q_3 rfl ?_
          refine q_5 rfl ?_
          first | refine q_31E rfl (by decide) hn ?_ | refine q_31 rfl (by decide) ?_
          refine q_geN (by omega) (by omega) (fun hh => absurd hh (by omega)) (fun hh => ?_)
          refine q_3 rfl ?_
          refine q_3 rfl ?_
          first | refine q_bitT (by assumption) (by omega) (by omega) ?_ | refine q_bitF (by assumption) (by omega) (by omega) ?_ | refine q_bit (by omega) (by omega) ?_ | refine q_bitM (by first | omega | assumption) (by omega) ?_
          refine q_0 ?_
          refine q_neN (by omega) (by omega) (fun hh => absurd hh (by omega)) (fun hh => ?_)
          refine q_5 rfl ?_
          refine q_3 rfl ?_
          refine q_47 (mj_ev_mono _) [_] rfl rfl rfl (by decide) rfl rfl rfl ?_
          refine s_218 hP (hW.f91 e') (hR.f91 e') hi (fun I2 e2 => ?_)
          refine q_3 rfl ?_
          first | refine q_bitT (by assumption) (by omega) (by omega) ?_ | refine q_bitF (by assumption) (by omega) (by omega) ?_ | refine q_bit (by omega) (by omega) ?_ | refine q_bitM (by first | omega | assumption) (by omega) ?_
          refine q_0 ?_
          refine q_neN (by omega) (by omega) (fun hh => ?_) (fun hh => absurd hh (by omega))
          first | refine q_inc rfl rfl rfl ?_ | refine q_9 rfl rfl rfl ?_
          refine q_23 ?_
          exact ih I2 (e'.tr e2) hf
        | true =>
          rw [fnd_yes hi (by simp [hq, hr])] at hf
          refine q_3 rfl ?_
          refine q_5 rfl ?_
          first | refine q_31E rfl (by decide) hn ?_ | refine q_31 rfl (by decide) ?_
          refine q_geN (by omega) (by omega) (fun hh => absurd hh (by omega)) (fun hh => ?_)
          refine q_3 rfl ?_
          refine q_3 rfl ?_
          first | refine q_bitT (by assumption) (by omega) (by omega) ?_ | refine q_bitF (by assumption) (by omega) (by omega) ?_ | refine q_bit (by omega) (by omega) ?_ | refine q_bitM (by first | omega | assumption) (by omega) ?_
          refine q_0 ?_
          refine q_neN (by omega) (by omega) (fun hh => absurd hh (by omega)) (fun hh => ?_)
          refine q_5 rfl ?_
          refine q_3 rfl ?_
          refine q_47 (mj_ev_mono _) [_] rfl rfl rfl (by decide) rfl rfl rfl ?_
          refine s_218 hP (hW.f91 e') (hR.f91 e') hi (fun I2 e2 => ?_)
          refine q_3 rfl ?_
          first | refine q_bitT (by assumption) (by omega) (by omega) ?_ | refine q_bitF (by assumption) (by omega) (by omega) ?_ | refine q_bit (by omega) (by omega) ?_ | refine q_bitM (by first | omega | assumption) (by omega) ?_
          refine q_0 ?_
          refine q_neN (by omega) (by omega) (fun hh => absurd hh (by omega)) (fun hh => ?_)
          refine q_0 ?_
          refine q_27 (by first | exact Or.inl rfl | exact Or.inr rfl | assumption | (split <;> first | exact Or.inl rfl | exact Or.inr rfl)) ?_
          exact kQ (k I2 (e'.tr e2)) (by unfold tmp; rw [← hf]; rfl)
  show mj_run (mj_ev (d + 7)) k239 Q (k239 0) [some (.ref 73), some (.int (nI a)), none, none] [] (107, I, L, P) 0 0
  refine q_5 rfl ?_
  refine q_3 rfl ?_
  refine q_47 (mj_ev_mono _) [_] rfl rfl rfl (by decide) rfl rfl rfl ?_
  refine s_218 hP hW hR ha (fun I1 e1 => ?_)
  refine q_6 rfl rfl rfl ?_
  refine q_0 ?_
  refine q_6 rfl rfl rfl ?_
  exact L8 0 (by omega) I1 e1 rfl
theorem s_240 (hP : PS t P) (hS : MS A I L) (k : kM Q I L P 0 (.int (nI (cntF (fai A.w A.c A.h A.m) A.w.n)))) : mj_ev (d + 12) 240 [.ref 73] (107, I, L, P) Q := by
  refine ⟨rfl, ?_⟩
  have hS0 := hS.i0
  have hn10 := hS.n10
  have L9 : ∀ i, i ≤ A.w.n → ∀ I' x3, Eqf (frm [91, 92] []) (I0 I) I' → mj_run (mj_ev (d + 11)) k240 Q (k240 9) [some (.ref 73), some (.int (nI (cntF (fai A.w A.c A.h A.m) i))), some (.int (nI i)), x3] [] (107, I', L, P) 0 0 := by
    refine loop_up ?_ (fun i hi ih => ?_)
    · intro I' x3 e'
      have hn := (hS0.mt.f91 e').hn
      refine q_3 rfl ?_
      refine q_5 rfl ?_
      first | refine q_31E rfl (by decide) hn ?_ | refine q_31 rfl (by decide) ?_
      refine q_geN (by omega) (by omega) (fun hh => ?_) (fun hh => absurd hh (by omega))
      refine q_3 rfl ?_
      refine q_26 ?_
      exact k.fin (FM_91 e') rfl (e' 73 0 rfl)
    · intro I' x3 e'
      have hn := (hS0.mt.f91 e').hn
      have hR' := hS0.rw.f91 e'
      have r3 := hR'.mat0 hi
      have eT : ∀ {b : Bool}, fai A.w A.c A.h A.m i = b → cntF (fai A.w A.c A.h A.m) (i + 1) = cntF (fai A.w A.c A.h A.m) i + (if b then 1 else 0) := fun q => by rw [← q]; rfl
      cases hm : A.m i with
      | none =>
        rw [hm] at r3
        have r3' : I' 89 (23 + i) = -(nI 1) := r3
        rw [eT (b := false) (by unfold fai; rw [hm])] at ih
        refine q_3 rfl ?_
        refine q_5 rfl ?_
        first | refine q_31E rfl (by decide) hn ?_ | refine q_31 rfl (by decide) ?_
        refine q_geN (by omega) (by omega) (fun hh => absurd hh (by omega)) (fun hh => ?_)
        refine q_5 rfl ?_
        refine q_33 rfl (by decide) (hP _ _ _ rfl) ?_
        refine q_0 ?_
        refine q_3 rfl ?_
        first | refine q_add ?_ | refine q_11 rfl ?_
        first | refine q_38E _ rfl (by decide) rfl (by show _ < 66; omega) (by decide) (r3') ?_ | refine q_38 _ rfl (by decide) rfl (by show _ < 66; omega) (by decide) ?_
        refine q_6 rfl rfl rfl ?_
        refine q_3 rfl ?_
        refine q_3 rfl ?_
        refine q_3 rfl ?_
        refine q_leI (fun _ => ?_) (fun q => absurd (Int32.le_of_lt (Int32.lt_of_lt_of_le (by decide) (nI_pos' (n := i) (by omega)))) q)
        refine q_0 ?_
        first | refine q_add ?_ | refine q_11 rfl ?_
        refine q_6 rfl rfl rfl ?_
        first | refine q_inc rfl rfl rfl ?_ | refine q_9 rfl rfl rfl ?_
        refine q_23 ?_
        exact ih I' _ e'
      | some q =>
        rw [hm] at r3
        have r3' : I' 89 (23 + i) = nI q := r3
        have hq := (hR'.gm i hi q hm).1
        by_cases hlt : i < q
        · cases t1 : tmp A.w A.c A.h A.m i with
          | true =>
            rw [eT (b := false) (by unfold fai; rw [hm]; simp [t1])] at ih
            refine q_3 rfl ?_
            refine q_5 rfl ?_
            first | refine q_31E rfl (by decide) hn ?_ | refine q_31 rfl (by decide) ?_
            refine q_geN (by omega) (by omega) (fun hh => absurd hh (by omega)) (fun hh => ?_)
            refine q_5 rfl ?_
            refine q_33 rfl (by decide) (hP _ _ _ rfl) ?_
            refine q_0 ?_
            refine q_3 rfl ?_
            first | refine q_add ?_ | refine q_11 rfl ?_
            first | refine q_38E _ rfl (by decide) rfl (by show _ < 66; omega) (by decide) (r3') ?_ | refine q_38 _ rfl (by decide) rfl (by show _ < 66; omega) (by decide) ?_
            refine q_6 rfl rfl rfl ?_
            refine q_3 rfl ?_
            refine q_3 rfl ?_
            refine q_3 rfl ?_
            refine q_leN (by omega) (by omega) (fun hh => absurd hh (by omega)) (fun hh => ?_)
            refine q_5 rfl ?_
            refine q_3 rfl ?_
            refine q_47 (mj_ev_mono _) [_] rfl rfl rfl (by decide) rfl rfl rfl ?_
            refine s_239 hP (hS0.mt.f91 e') hR' hi (fun I2 e2 => ?_)
            rw [t1]
            first | refine q_neN0 (by omega) (fun hh => ?_) (fun hh => absurd hh (by omega)) | refine q_neI0 (fun hh => ?_) (fun hh => absurd (by decide) hh)
            refine q_0 ?_
            first | refine q_add ?_ | refine q_11 rfl ?_
            refine q_6 rfl rfl rfl ?_
            first | refine q_inc rfl rfl rfl ?_ | refine q_9 rfl rfl rfl ?_
            refine q_23 ?_
            exact ih I2 _ (e'.tr e2)
          | false =>
            cases t2 : tmp A.w A.c A.h A.m q with
            | true =>
              rw [eT (b := false) (by unfold fai; rw [hm]; simp [t2])] at ih
              refine q_3 rfl ?_
              refine q_5 rfl ?_
              first | refine q_31E rfl (by decide) hn ?_ | refine q_31 rfl (by decide) ?_
              refine q_geN (by omega) (by omega) (fun hh => absurd hh (by omega)) (fun hh => ?_)
              refine q_5 rfl ?_
              refine q_33 rfl (by decide) (hP _ _ _ rfl) ?_
              refine q_0 ?_
              refine q_3 rfl ?_
              first | refine q_add ?_ | refine q_11 rfl ?_
              first | refine q_38E _ rfl (by decide) rfl (by show _ < 66; omega) (by decide) (r3') ?_ | refine q_38 _ rfl (by decide) rfl (by show _ < 66; omega) (by decide) ?_
              refine q_6 rfl rfl rfl ?_
              refine q_3 rfl ?_
              refine q_3 rfl ?_
              refine q_3 rfl ?_
              refine q_leN (by omega) (by omega) (fun hh => absurd hh (by omega)) (fun hh => ?_)
              refine q_5 rfl ?_
              refine q_3 rfl ?_
              refine q_47 (mj_ev_mono _) [_] rfl rfl rfl (by decide) rfl rfl rfl ?_
              refine s_239 hP (hS0.mt.f91 e') hR' hi (fun I2 e2 => ?_)
              rw [t1]
              first | refine q_neN0 (by omega) (fun hh => absurd hh (by omega)) (fun hh => ?_) | refine q_neI0 (fun hh => absurd hh (by decide)) (fun hh => ?_)
              refine q_5 rfl ?_
              refine q_3 rfl ?_
              refine q_47 (mj_ev_mono _) [_] rfl rfl rfl (by decide) rfl rfl rfl ?_
              refine s_239 hP (hS0.mt.f91 (e'.tr e2)) (hR'.f91 e2) hq (fun I3 e3 => ?_)
              rw [t2]
              first | refine q_neN0 (by omega) (fun hh => ?_) (fun hh => absurd hh (by omega)) | refine q_neI0 (fun hh => ?_) (fun hh => absurd (by decide) hh)
              refine q_0 ?_
              first | refine q_add ?_ | refine q_11 rfl ?_
              refine q_6 rfl rfl rfl ?_
              first | refine q_inc rfl rfl rfl ?_ | refine q_9 rfl rfl rfl ?_
              refine q_23 ?_
              exact ih I3 _ ((e'.tr e2).tr e3)
            | false =>
              rw [eT (b := true) (by unfold fai; rw [hm]; simp [t1, t2, hlt])] at ih
              refine q_3 rfl ?_
              refine q_5 rfl ?_
              first | refine q_31E rfl (by decide) hn ?_ | refine q_31 rfl (by decide) ?_
              refine q_geN (by omega) (by omega) (fun hh => absurd hh (by omega)) (fun hh => ?_)
              refine q_5 rfl ?_
              refine q_33 rfl (by decide) (hP _ _ _ rfl) ?_
              refine q_0 ?_
              refine q_3 rfl ?_
              first | refine q_add ?_ | refine q_11 rfl ?_
              first | refine q_38E _ rfl (by decide) rfl (by show _ < 66; omega) (by decide) (r3') ?_ | refine q_38 _ rfl (by decide) rfl (by show _ < 66; omega) (by decide) ?_
              refine q_6 rfl rfl rfl ?_
              refine q_3 rfl ?_
              refine q_3 rfl ?_
              refine q_3 rfl ?_
              refine q_leN (by omega) (by omega) (fun hh => absurd hh (by omega)) (fun hh => ?_)
              refine q_5 rfl ?_
              refine q_3 rfl ?_
              refine q_47 (mj_ev_mono _) [_] rfl rfl rfl (by decide) rfl rfl rfl ?_
              refine s_239 hP (hS0.mt.f91 e') hR' hi (fun I2 e2 => ?_)
              rw [t1]
              first | refine q_neN0 (by omega) (fun hh => absurd hh (by omega)) (fun hh => ?_) | refine q_neI0 (fun hh => absurd hh (by decide)) (fun hh => ?_)
              refine q_5 rfl ?_
              refine q_3 rfl ?_
              refine q_47 (mj_ev_mono _) [_] rfl rfl rfl (by decide) rfl rfl rfl ?_
              refine s_239 hP (hS0.mt.f91 (e'.tr e2)) (hR'.f91 e2) hq (fun I3 e3 => ?_)
              rw [t2]
              first | refine q_neN0 (by omega) (fun hh => absurd hh (by omega)) (fun hh => ?_) | refine q_neI0 (fun hh => absurd hh (by decide)) (fun hh => ?_)
              refine q_0 ?_
              refine q_23 ?_
              first | refine q_add ?_ | refine q_11 rfl ?_
              refine q_6 rfl rfl rfl ?_
              first | refine q_inc rfl rfl rfl ?_ | refine q_9 rfl rfl rfl ?_
              refine q_23 ?_
              exact ih I3 _ ((e'.tr e2).tr e3)
        · rw [eT (b := false) (by unfold fai; rw [hm]; simp [hlt])] at ih
          refine q_3 rfl ?_
          refine q_5 rfl ?_
          first | refine q_31E rfl (by decide) hn ?_ | refine q_31 rfl (by decide) ?_
          refine q_geN (by omega) (by omega) (fun hh => absurd hh (by omega)) (fun hh => ?_)
          refine q_5 rfl ?_
          refine q_33 rfl (by decide) (hP _ _ _ rfl) ?_
          refine q_0 ?_
          refine q_3 rfl ?_
          first | refine q_add ?_ | refine q_11 rfl ?_
          first | refine q_38E _ rfl (by decide) rfl (by show _ < 66; omega) (by decide) (r3') ?_ | refine q_38 _ rfl (by decide) rfl (by show _ < 66; omega) (by decide) ?_
          refine q_6 rfl rfl rfl ?_
          refine q_3 rfl ?_
          refine q_3 rfl ?_
          refine q_3 rfl ?_
          refine q_leN (by omega) (by omega) (fun hh => ?_) (fun hh => absurd hh (by omega))
          refine q_0 ?_
          first | refine q_add ?_ | refine q_11 rfl ?_
          refine q_6 rfl rfl rfl ?_
          first | refine q_inc rfl rfl rfl ?_ | refine q_9 rfl rfl rfl ?_
          refine q_23 ?_
          exact ih I' _ e'
  show mj_run (mj_ev (d + 11)) k240 Q (k240 0) [some (.ref 73), none, none, none] [] (107, I, L, P) 0 0
  refine q_5 rfl ?_
  refine q_0 ?_
  refine q_34 rfl (by decide) ?_
  refine q_0 ?_
  refine q_6 rfl rfl rfl ?_
  refine q_0 ?_
  refine q_6 rfl rfl rfl ?_
  exact L9 0 (by omega) (I0 I) _ Eqf.rf
theorem s_242 (hP : PS t P) (hS : MS A I L) (k : kM Q I L P 0 (.int (mI (drn A.w A.c (A.h, A.m)).1))) : mj_ev (d + 12) 242 [.ref 73] (107, I, L, P) Q := by
  refine ⟨rfl, ?_⟩
  have hS0 := hS.i0
  have hn10 := hS.n10
  have L24 : ∀ p, p ≤ A.w.n → ∀ (acc : Option Nat × Nat) (I' : mj_I) x4, acc.2 ≤ 10 → Eqf (frr 33) (I0 I) I' → fld A.w.n p (drnF A.w A.c (A.h, A.m)) acc = drn A.w A.c (A.h, A.m) → mj_run (mj_ev (d + 11)) k242 Q (k242 24) [some (.ref 73), some (.int (nI acc.2)), some (.int (mI acc.1)), some (.int (nI p)), x4] [] (107, I', L, P) 0 0 := by
    refine loop_up ?_ (fun p hp ih => ?_)
    · intro acc I' x4 h10 e' hf
      have hn := (hS0.mt.frr e').hn
      rw [fld_end (Nat.le_refl _)] at hf
      subst hf
      refine q_3 rfl ?_
      refine q_5 rfl ?_
      first | refine q_31E rfl (by decide) hn ?_ | refine q_31 rfl (by decide) ?_
      refine q_geN (by omega) (by omega) (fun hh => ?_) (fun hh => absurd hh (by omega))
      refine q_3 rfl ?_
      refine q_26 ?_
      exact k.fin (FM_33 e') rfl (e' 73 0 rfl)
    · intro acc I' x4 h10 e' hf
      have hn := (hS0.mt.frr e').hn
      have hb5 : bmk A.w A.c (fun x => if x = p then 0 else A.h x, A.m) 5 ≤ A.w.n := cntF_le _ _
      rw [fld_step hp] at hf
      have yes : acc.2 < bmk A.w A.c (fun x => if x = p then 0 else A.h x, A.m) 5 → drnF A.w A.c (A.h, A.m) acc p = (some p, bmk A.w A.c (fun x => if x = p then 0 else A.h x, A.m) 5) := fun q => if_pos q
      have no : ¬ acc.2 < bmk A.w A.c (fun x => if x = p then 0 else A.h x, A.m) 5 → drnF A.w A.c (A.h, A.m) acc p = acc := fun q => if_neg q
      have L49 : ∀ i, i ≤ 5 → ∀ (I2 : mj_I), Eqf (frr 33) (I0 I) I2 → RW A.w.n 33 A.c (many A.w A.c (fun x => if x = p then 0 else A.h x, A.m) i).1 (many A.w A.c (fun x => if x = p then 0 else A.h x, A.m) i).2 I2 → mj_run (mj_ev (d + 11)) k242 Q (k242 49) [some (.ref 73), some (.int (nI acc.2)), some (.int (mI acc.1)), some (.int (nI p)), some (.int (nI i))] [] (107, I2, L, P) 0 0 := by
        refine loop_up ?_ (fun i hi ih2 => ?_)
        · intro I2 e2 hR2
          refine q_3 rfl ?_
          refine q_0 ?_
          refine q_geN (by omega) (by omega) (fun hh => ?_) (fun hh => absurd hh (by omega))
          refine q_5 rfl ?_
          refine q_0 ?_
          refine q_47 (mj_ev_mono _) [_] rfl rfl rfl (by decide) rfl rfl rfl ?_
          refine s_215 hP (by omega) (hS0.mt.frr e2).hn hR2 ?_
          refine q_48 (mj_ev_mono _) [_] rfl rfl rfl rfl rfl ?_
          refine s_166 hn10 ?_
          refine q_6 rfl rfl rfl ?_
          refine q_3 rfl ?_
          refine q_3 rfl ?_
          refine q_gtN (show bmk A.w A.c (fun x => if x = p then 0 else A.h x, A.m) 5 < 2 ^ 31 by omega) (by omega) (fun h1 => ?_) (fun h1 => ?_)
          · refine q_3 rfl ?_
            refine q_6 rfl rfl rfl ?_
            refine q_3 rfl ?_
            refine q_6 rfl rfl rfl ?_
            first | refine q_inc rfl rfl rfl ?_ | refine q_9 rfl rfl rfl ?_
            refine q_23 ?_
            first | (rw [yes h1] at hf; exact ih (some p, bmk A.w A.c (fun x => if x = p then 0 else A.h x, A.m) 5) I2 _ (by show bmk _ _ _ _ ≤ 10; omega) e2 hf) | (rw [no (Nat.not_lt.mpr h1)] at hf; exact ih acc I2 _ h10 e2 hf)
          · refine q_23 ?_
            first | refine q_inc rfl rfl rfl ?_ | refine q_9 rfl rfl rfl ?_
            refine q_23 ?_
            first | (rw [yes h1] at hf; exact ih (some p, bmk A.w A.c (fun x => if x = p then 0 else A.h x, A.m) 5) I2 _ (by show bmk _ _ _ _ ≤ 10; omega) e2 hf) | (rw [no (Nat.not_lt.mpr h1)] at hf; exact ih acc I2 _ h10 e2 hf)
        · intro I2 e2 hR2
          refine q_3 rfl ?_
          refine q_0 ?_
          refine q_geN (by omega) (by omega) (fun hh => absurd hh (by omega)) (fun hh => ?_)
          refine q_5 rfl ?_
          refine q_0 ?_
          refine q_47 (mj_ev_mono _) [_] rfl rfl rfl (by decide) rfl rfl rfl ?_
          refine s_213 hP (by omega) (hS0.mt.frr e2) hR2 (fun I3 e3 hR3 _ => ?_)
          refine q_19 rfl ?_
          first | refine q_inc rfl rfl rfl ?_ | refine q_9 rfl rfl rfl ?_
          refine q_23 ?_
          exact ih2 I3 (e2.tr e3) hR3
      refine q_3 rfl ?_
      refine q_5 rfl ?_
      first | refine q_31E rfl (by decide) hn ?_ | refine q_31 rfl (by decide) ?_
      refine q_geN (by omega) (by omega) (fun hh => absurd hh (by omega)) (fun hh => ?_)
      refine q_5 rfl ?_
      refine q_47 (mj_ev_mono _) [] rfl rfl rfl (by decide) rfl rfl rfl ?_
      refine s_200 hP (fun I2 e2 h2 => ?_)
      refine q_5 rfl ?_
      refine q_33 rfl (by decide) (hP _ _ _ rfl) ?_
      refine q_0 ?_
      refine q_3 rfl ?_
      first | refine q_add ?_ | refine q_11 rfl ?_
      refine q_0 ?_
      refine q_42 _ rfl (by decide) rfl (by show _ < 66; omega) (by decide) ?_
      refine q_0 ?_
      refine q_6 rfl rfl rfl ?_
      exact L49 0 (by omega) _ ((e'.tr e2).up (frr_in (by omega) (by omega))) (((hS0.rw.f0 e').cp h2).hs hp (by omega))
  have hb5 : bmk A.w A.c (A.h, A.m) 5 ≤ A.w.n := cntF_le _ _
  show mj_run (mj_ev (d + 11)) k242 Q (k242 0) [some (.ref 73), none, none, none, none] [] (107, I, L, P) 0 0
  refine q_5 rfl ?_
  refine q_0 ?_
  refine q_34 rfl (by decide) ?_
  refine q_5 rfl ?_
  refine q_0 ?_
  refine q_47 (mj_ev_mono _) [_] rfl rfl rfl (by decide) rfl rfl rfl ?_
  refine s_214 hP (by omega) hS0.mt hS0.rw (fun I1 e1 hR1 => ?_)
  refine q_5 rfl ?_
  refine q_0 ?_
  refine q_47 (mj_ev_mono _) [_] rfl rfl rfl (by decide) rfl rfl rfl ?_
  refine s_215 hP (by omega) (hS0.mt.frr e1).hn hR1 ?_
  refine q_48 (mj_ev_mono _) [_] rfl rfl rfl rfl rfl ?_
  refine s_166 hn10 ?_
  refine q_6 rfl rfl rfl ?_
  refine q_1 ?_
  refine q_6 rfl rfl rfl ?_
  refine q_0 ?_
  refine q_6 rfl rfl rfl ?_
  exact L24 0 (by omega) (none, bmk A.w A.c (A.h, A.m) 5) I1 _ (by show bmk _ _ _ _ ≤ 10; omega) e1 rfl
theorem s_258 (hP : PS t P) (hW : MT w I) (hR : RW w.n 0 c h m I) (ha : a < w.n) (hb : b < w.n) (k : ∀ I', Eqf (fun c j => frr 33 c j || (c == 73 && j == 51)) I I' → I' 73 51 = mI ((wayS w c h m a b).map (·.2)) → Q (.inl (some (.int (mI ((wayS w c h m a b).map (·.1)))))) (107, I', L, P)) : mj_ev (d + 7) 258 [.ref 73, .int (nI a), .int (nI b)] (107, I, L, P) Q := by
  refine ⟨rfl, ?_⟩
  have hn10 := hR.n10
  have ha10 := hR.h10 ha
  have up1 : ∀ {I1 I2 : mj_I}, Eqf (frr 33) I1 I2 → Eqf (fun c j => frr 33 c j || (c == 73 && j == 51)) I1 I2 := fun e => e.mono (fun c j q => (Bool.or_eq_false_iff.mp q).1)
  have tW : ∀ {I1 : mj_I}, Eqf (fun c j => frr 33 c j || (c == 73 && j == 51)) I I1 → MT w I1 := fun e => hW.fr e (fun _ => ⟨rfl, rfl, rfl, rfl, rfl, rfl, rfl, rfl⟩)
  have tR : ∀ {I1 : mj_I}, Eqf (fun c j => frr 33 c j || (c == 73 && j == 51)) I I1 → RW w.n 0 c h m I1 := fun e => hR.fr e (fun j _ h2 => by rw [frr_lo (by omega)]; rfl)
  have L10 : ∀ x, x ≤ 10 → ∀ (acc : Option (Nat × Nat)) (I' : mj_I) x5 x6, (∀ z, acc = some z → z.1 ≤ 100 ∧ z.2 ≤ 200) → Eqf (fun c j => frr 33 c j || (c == 73 && j == 51)) I I' → I' 73 51 = mI (acc.map (·.2)) → fld 10 x (fun acc x => fld (h a + 1) 0 (wayF w c h m a b x) acc) acc = wayS w c h m a b → mj_run (mj_ev (d + 6)) k258 Q (k258 10) [some (.ref 73), some (.int (nI a)), some (.int (nI b)), some (.int (mI (acc.map (·.1)))), some (.int (nI x)), x5, x6] [] (107, I', L, P) 0 0 := by
    refine loop_up ?_ (fun x hx ih => ?_)
    · intro acc I' x5 x6 hz e' h51 hf
      rw [fld_end (Nat.le_refl _)] at hf
      subst hf
      refine q_3 rfl ?_
      refine q_0 ?_
      refine q_geN (by omega) (by omega) (fun hh => ?_) (fun hh => absurd hh (by omega))
      refine q_3 rfl ?_
      refine q_26 ?_
      exact k I' e' h51
    · have L20 : ∀ y, y ≤ h a + 1 → ∀ (acc : Option (Nat × Nat)) (I' : mj_I) x6, (∀ z, acc = some z → z.1 ≤ 100 ∧ z.2 ≤ 200) → Eqf (fun c j => frr 33 c j || (c == 73 && j == 51)) I I' → I' 73 51 = mI (acc.map (·.2)) → fld 10 (x + 1) (fun acc x => fld (h a + 1) 0 (wayF w c h m a b x) acc) (fld (h a + 1) y (wayF w c h m a b x) acc) = wayS w c h m a b → mj_run (mj_ev (d + 6)) k258 Q (k258 20) [some (.ref 73), some (.int (nI a)), some (.int (nI b)), some (.int (mI (acc.map (·.1)))), some (.int (nI x)), some (.int (nI y)), x6] [] (107, I', L, P) 0 0 := by
        refine loop_up ?_ (fun y hy ih2 => ?_)
        · intro acc I' x6 hz e' h51 hf
          rw [fld_end (Nat.le_refl _)] at hf
          have r1 := (tR e').hol0 ha
          refine q_3 rfl ?_
          refine q_5 rfl ?_
          refine q_33 rfl (by decide) (hP _ _ _ rfl) ?_
          refine q_0 ?_
          refine q_3 rfl ?_
          first | refine q_add ?_ | refine q_11 rfl ?_
          first | refine q_38E _ rfl (by decide) rfl (by show _ < 66; omega) (by decide) (r1) ?_ | refine q_38 _ rfl (by decide) rfl (by show _ < 66; omega) (by decide) ?_
          refine q_gtN (by omega) (by omega) (fun hh => ?_) (fun hh => absurd hh (by omega))
          first | refine q_inc rfl rfl rfl ?_ | refine q_9 rfl rfl rfl ?_
          refine q_23 ?_
          exact ih acc I' _ _ hz e' h51 hf
        · intro acc I' x6 hz e' h51 hf
          have hR' := tR e'
          have r1 := hR'.hol0 ha
          have r2 := hR'.col0 ha
          have c10 := hR.c10 ha
          rw [fld_step hy] at hf
          have no1 : ∀ z, acc = some z → z.1 ≤ (if x = c a then 0 else 3) + y → wayF w c h m a b x acc y = acc := fun z e q => if_neg (fun q2 => q2.1.elim (fun q3 => by rw [e] at q3; cases q3) (fun ⟨z2, e2, q3⟩ => by rw [e] at e2; cases e2; omega))
          have J : (acc = none ∨ ∃ z, acc = some z ∧ (if x = c a then 0 else 3) + y < z.1) → mj_run (mj_ev (d + 6)) k258 Q (k258 71) [some (.ref 73), some (.int (nI a)), some (.int (nI b)), some (.int (mI (acc.map (·.1)))), some (.int (nI x)), some (.int (nI y)), some (.int (nI ((if x = c a then 0 else 3) + y)))] [] (107, I', L, P) 0 0 := by
            intro hgo
            refine q_5 rfl ?_
            refine q_47 (mj_ev_mono _) [] rfl rfl rfl (by decide) rfl rfl rfl ?_
            refine s_200 hP (fun I1 e1 h1 => ?_)
            have hR1 := (hR'.cp h1).cs (p := a) (v := x) ha hx
            have r3 : mj_upI I1 89 (34 + a) (nI x) 89 (45 + a) = nI (h a) := hR1.hol ha
            refine q_5 rfl ?_
            refine q_33 rfl (by decide) (hP _ _ _ rfl) ?_
            refine q_0 ?_
            refine q_3 rfl ?_
            first | refine q_add ?_ | refine q_11 rfl ?_
            refine q_3 rfl ?_
            refine q_42 _ rfl (by decide) rfl (by show _ < 66; omega) (by decide) ?_
            refine q_5 rfl ?_
            refine q_33 rfl (by decide) (hP _ _ _ rfl) ?_
            refine q_0 ?_
            refine q_3 rfl ?_
            first | refine q_add ?_ | refine q_11 rfl ?_
            refine q_20 rfl rfl ?_
            first | refine q_38E _ rfl (by decide) rfl (by show _ < 66; omega) (by decide) (r3) ?_ | refine q_38E _ rfl (by decide) rfl (by show _ < 66; omega) (by decide) (r4) ?_ | refine q_38 _ rfl (by decide) rfl (by show _ < 66; omega) (by decide) ?_
            refine q_3 rfl ?_
            first | refine q_sub (by omega) ?_ | refine q_11 rfl ?_
            refine q_42 _ rfl (by decide) rfl (by show _ < 66; omega) (by decide) ?_
            refine q_5 rfl ?_
            refine q_0 ?_
            refine q_47 (mj_ev_mono _) [_] rfl rfl rfl (by decide) rfl rfl rfl ?_
            have hR2 := hR1.hs (p := a) (v := h a - y) ha (by omega)
            have e2 : Eqf (fun c j => frr 33 c j || (c == 73 && j == 51)) I (mj_upI (mj_upI I1 89 (34 + a) (nI x)) 89 (45 + a) (nI (h a - y))) := ((e'.tr (up1 e1)).up (by rw [frr_in (by omega) (by omega)]; rfl)).up (by rw [frr_in (by omega) (by omega)]; rfl)
            refine s_211 hP (by omega) (tW e2) hR2 (fun I3 e3 hR3 _ => ?_)
            have r4 := hR3.mat ha
            have m4 := hR3.m31 ha
            have e4 := e2.tr (up1 e3)
            refine q_5 rfl ?_
            refine q_33 rfl (by decide) (hP _ _ _ rfl) ?_
            refine q_0 ?_
            refine q_3 rfl ?_
            first | refine q_add ?_ | refine q_11 rfl ?_
            first | refine q_38E _ rfl (by decide) rfl (by show _ < 66; omega) (by decide) (r3) ?_ | refine q_38E _ rfl (by decide) rfl (by show _ < 66; omega) (by decide) (r4) ?_ | refine q_38 _ rfl (by decide) rfl (by show _ < 66; omega) (by decide) ?_
            refine q_3 rfl ?_
            refine q_eqI (fun h2 => ?_) (fun h2 => ?_)
            · refine q_3 rfl ?_
              refine q_6 rfl rfl rfl ?_
              refine q_5 rfl ?_
              refine q_0 ?_
              refine q_3 rfl ?_
              first | refine q_mul ?_ | refine q_11 rfl ?_
              refine q_3 rfl ?_
              first | refine q_add ?_ | refine q_11 rfl ?_
              refine q_34 rfl (by decide) ?_
              first | refine q_inc rfl rfl rfl ?_ | refine q_9 rfl rfl rfl ?_
              refine q_23 ?_
              first | (rw [show wayF w c h m a b x acc y = some ((if x = c a then 0 else 3) + y, 10 * x + y) from if_pos ⟨hgo, (mI_inj m4 (m' := some b) (fun q e => by cases e; omega)).mp h2⟩] at hf; exact ih2 (some ((if x = c a then 0 else 3) + y, 10 * x + y)) _ _ (fun z e => by cases e; exact ⟨by show (if x = c a then 0 else 3) + y ≤ 100; split <;> omega, by show 10 * x + y ≤ 200; omega⟩) (e4.up (by rfl)) upI_s hf) | (rw [show wayF w c h m a b x acc y = acc from if_neg (fun q => h2 (by rw [q.2]; rfl))] at hf; exact ih2 acc I3 _ hz e4 (((up1 e3) 73 51 |> fun _ => (e3 73 51 rfl).trans ((e1 73 51 rfl).trans h51))) hf)
            · refine q_23 ?_
              first | refine q_inc rfl rfl rfl ?_ | refine q_9 rfl rfl rfl ?_
              refine q_23 ?_
              first | (rw [show wayF w c h m a b x acc y = some ((if x = c a then 0 else 3) + y, 10 * x + y) from if_pos ⟨hgo, (mI_inj m4 (m' := some b) (fun q e => by cases e; omega)).mp h2⟩] at hf; exact ih2 (some ((if x = c a then 0 else 3) + y, 10 * x + y)) _ _ (fun z e => by cases e; exact ⟨by show (if x = c a then 0 else 3) + y ≤ 100; split <;> omega, by show 10 * x + y ≤ 200; omega⟩) (e4.up (by rfl)) upI_s hf) | (rw [show wayF w c h m a b x acc y = acc from if_neg (fun q => h2 (by rw [q.2]; rfl))] at hf; exact ih2 acc I3 _ hz e4 (((up1 e3) 73 51 |> fun _ => (e3 73 51 rfl).trans ((e1 73 51 rfl).trans h51))) hf)
          cases acc with
          | none =>
            refine q_3 rfl ?_
            refine q_5 rfl ?_
            refine q_33 rfl (by decide) (hP _ _ _ rfl) ?_
            refine q_0 ?_
            refine q_3 rfl ?_
            first | refine q_add ?_ | refine q_11 rfl ?_
            first | refine q_38E _ rfl (by decide) rfl (by show _ < 66; omega) (by decide) (r1) ?_ | refine q_38E _ rfl (by decide) rfl (by show _ < 66; omega) (by decide) (r2) ?_ | refine q_38 _ rfl (by decide) rfl (by show _ < 66; omega) (by decide) ?_
            refine q_gtN (by omega) (by omega) (fun hh => absurd hh (by omega)) (fun hh => ?_)
            refine q_3 rfl ?_
            refine q_5 rfl ?_
            refine q_33 rfl (by decide) (hP _ _ _ rfl) ?_
            refine q_0 ?_
            refine q_3 rfl ?_
            first | refine q_add ?_ | refine q_11 rfl ?_
            first | refine q_38E _ rfl (by decide) rfl (by show _ < 66; omega) (by decide) (r1) ?_ | refine q_38E _ rfl (by decide) rfl (by show _ < 66; omega) (by decide) (r2) ?_ | refine q_38 _ rfl (by decide) rfl (by show _ < 66; omega) (by decide) ?_
            first | refine q_d22_1Nn (J := 52) (by omega) (by omega) (fun j => q_0 (j)) (fun j => q_0 (q_23 (j))) ?_ | refine q_d22_1Ni (J := 52) (by omega) (by omega) (fun j => q_0 (j)) (fun j => q_0 (q_23 (j))) ?_ | refine q_d22_1Mn (J := 52) (by assumption) (fun j => q_0 (j)) (fun j => q_0 (q_23 (j))) ?_ | refine q_d22_1In (J := 52) (fun j => q_0 (j)) (fun j => q_0 (q_23 (j))) ?_ | refine q_d22_1Ii (J := 52) (fun j => q_0 (j)) (fun j => q_0 (q_23 (j))) ?_
            refine q_3 rfl ?_
            first | refine q_add ?_ | refine q_11 rfl ?_
            refine q_6 rfl rfl rfl ?_
            refine q_3 rfl ?_
            refine q_1 ?_
            refine q_eqI (fun _ => ?_) (fun h => absurd rfl h)
            exact J (Or.inl rfl)
          | some z =>
            obtain ⟨hz1, hz2⟩ := hz z rfl
            by_cases hlt : (if x = c a then 0 else 3) + y < z.1
            · have z3 : (if x = c a then 0 else 3) + y < 2 ^ 31 := by omega
              refine q_3 rfl ?_
              refine q_5 rfl ?_
              refine q_33 rfl (by decide) (hP _ _ _ rfl) ?_
              refine q_0 ?_
              refine q_3 rfl ?_
              first | refine q_add ?_ | refine q_11 rfl ?_
              first | refine q_38E _ rfl (by decide) rfl (by show _ < 66; omega) (by decide) (r1) ?_ | refine q_38E _ rfl (by decide) rfl (by show _ < 66; omega) (by decide) (r2) ?_ | refine q_38 _ rfl (by decide) rfl (by show _ < 66; omega) (by decide) ?_
              refine q_gtN (by omega) (by omega) (fun hh => absurd hh (by omega)) (fun hh => ?_)
              refine q_3 rfl ?_
              refine q_5 rfl ?_
              refine q_33 rfl (by decide) (hP _ _ _ rfl) ?_
              refine q_0 ?_
              refine q_3 rfl ?_
              first | refine q_add ?_ | refine q_11 rfl ?_
              first | refine q_38E _ rfl (by decide) rfl (by show _ < 66; omega) (by decide) (r1) ?_ | refine q_38E _ rfl (by decide) rfl (by show _ < 66; omega) (by decide) (r2) ?_ | refine q_38 _ rfl (by decide) rfl (by show _ < 66; omega) (by decide) ?_
              first | refine q_d22_1Nn (J := 52) (by omega) (by omega) (fun j => q_0 (j)) (fun j => q_0 (q_23 (j))) ?_ | refine q_d22_1Ni (J := 52) (by omega) (by omega) (fun j => q_0 (j)) (fun j => q_0 (q_23 (j))) ?_ | refine q_d22_1Mn (J := 52) (by assumption) (fun j => q_0 (j)) (fun j => q_0 (q_23 (j))) ?_ | refine q_d22_1In (J := 52) (fun j => q_0 (j)) (fun j => q_0 (q_23 (j))) ?_ | refine q_d22_1Ii (J := 52) (fun j => q_0 (j)) (fun j => q_0 (q_23 (j))) ?_
              refine q_3 rfl ?_
              first | refine q_add ?_ | refine q_11 rfl ?_
              refine q_6 rfl rfl rfl ?_
              refine q_3 rfl ?_
              refine q_1 ?_
              refine q_eqI (fun h => absurd h (mI_ne (show z.1 < 2 ^ 31 by omega))) (fun _ => ?_)
              refine q_3 rfl ?_
              refine q_3 rfl ?_
              refine q_ltN z3 (show z.1 < 2 ^ 31 by omega) (fun _ => ?_) (fun h => absurd hlt (Nat.not_lt.mpr h))
              exact J (Or.inr ⟨z, rfl, hlt⟩)
            · have z3 : (if x = c a then 0 else 3) + y < 2 ^ 31 := by split <;> omega
              rw [no1 z rfl (by omega)] at hf
              refine q_3 rfl ?_
              refine q_5 rfl ?_
              refine q_33 rfl (by decide) (hP _ _ _ rfl) ?_
              refine q_0 ?_
              refine q_3 rfl ?_
              first | refine q_add ?_ | refine q_11 rfl ?_
              first | refine q_38E _ rfl (by decide) rfl (by show _ < 66; omega) (by decide) (r1) ?_ | refine q_38E _ rfl (by decide) rfl (by show _ < 66; omega) (by decide) (r2) ?_ | refine q_38 _ rfl (by decide) rfl (by show _ < 66; omega) (by decide) ?_
              refine q_gtN (by omega) (by omega) (fun hh => absurd hh (by omega)) (fun hh => ?_)
              refine q_3 rfl ?_
              refine q_5 rfl ?_
              refine q_33 rfl (by decide) (hP _ _ _ rfl) ?_
              refine q_0 ?_
              refine q_3 rfl ?_
              first | refine q_add ?_ | refine q_11 rfl ?_
              first | refine q_38E _ rfl (by decide) rfl (by show _ < 66; omega) (by decide) (r1) ?_ | refine q_38E _ rfl (by decide) rfl (by show _ < 66; omega) (by decide) (r2) ?_ | refine q_38 _ rfl (by decide) rfl (by show _ < 66; omega) (by decide) ?_
              first | refine q_d22_1Nn (J := 52) (by omega) (by omega) (fun j => q_0 (j)) (fun j => q_0 (q_23 (j))) ?_ | refine q_d22_1Ni (J := 52) (by omega) (by omega) (fun j => q_0 (j)) (fun j => q_0 (q_23 (j))) ?_ | refine q_d22_1Mn (J := 52) (by assumption) (fun j => q_0 (j)) (fun j => q_0 (q_23 (j))) ?_ | refine q_d22_1In (J := 52) (fun j => q_0 (j)) (fun j => q_0 (q_23 (j))) ?_ | refine q_d22_1Ii (J := 52) (fun j => q_0 (j)) (fun j => q_0 (q_23 (j))) ?_
              refine q_3 rfl ?_
              first | refine q_add ?_ | refine q_11 rfl ?_
              refine q_6 rfl rfl rfl ?_
              refine q_3 rfl ?_
              refine q_1 ?_
              refine q_eqI (fun h => absurd h (mI_ne (show z.1 < 2 ^ 31 by omega))) (fun _ => ?_)
              refine q_3 rfl ?_
              refine q_3 rfl ?_
              refine q_ltN z3 (show z.1 < 2 ^ 31 by omega) (fun h => absurd h hlt) (fun _ => ?_)
              refine q_23 ?_
              first | refine q_inc rfl rfl rfl ?_ | refine q_9 rfl rfl rfl ?_
              refine q_23 ?_
              exact ih2 (some z) I' _ hz e' h51 hf
      intro acc I' x5 x6 hz e' h51 hf
      rw [fld_step hx] at hf
      refine q_3 rfl ?_
      refine q_0 ?_
      refine q_geN (by omega) (by omega) (fun hh => absurd hh (by omega)) (fun hh => ?_)
      refine q_0 ?_
      refine q_6 rfl rfl rfl ?_
      exact L20 0 (by omega) acc I' _ hz e' h51 hf
  show mj_run (mj_ev (d + 6)) k258 Q (k258 0) [some (.ref 73), some (.int (nI a)), some (.int (nI b)), none, none, none, none] [] (107, I, L, P) 0 0
  refine q_1 ?_
  refine q_6 rfl rfl rfl ?_
  refine q_5 rfl ?_
  refine q_1 ?_
  refine q_34 rfl (by decide) ?_
  refine q_0 ?_
  refine q_6 rfl rfl rfl ?_
  exact L10 0 (by omega) none _ _ _ (fun z e => by cases e) (Eqf.rf.up rfl) upI_s rfl
theorem s_259 {x : Nat} (hP : PS t P) (hS : MS A I L) (ha : a < A.w.n) (hb : b < A.w.n) (hx : x ≤ 1) (k : kM Q I L P 0 (.int (mI (if a = b ∨ A.m a ≠ none ∨ A.m b ≠ none then none else (wayS A.w A.c A.h A.m a b).map (fun z => if x = 0 then z.1 else z.2))))) : mj_ev (d + 12) 259 [.ref 73, .int (nI a), .int (nI b), .int (nI x)] (107, I, L, P) Q := by
  refine ⟨rfl, ?_⟩
  have hS0 := hS.i0
  have hn10 := hS.n10
  have r1 := hS0.rw.mat0 ha
  have r2 := hS0.rw.mat0 hb
  have m1 := hS0.rw.m31 ha
  have m2 := hS0.rw.m31 hb
  have bad : (a = b ∨ A.m a ≠ none ∨ A.m b ≠ none) → Q (.inl (some (.int (-(nI 1))))) (107, I0 I, L, P) := fun q => by
    rw [if_pos q] at k
    exact k.fin Eqf.rf rfl
  show mj_run (mj_ev (d + 11)) k259 Q (k259 0) [some (.ref 73), some (.int (nI a)), some (.int (nI b)), some (.int (nI x)), none] [] (107, I, L, P) 0 0
  obtain rfl | rfl : x = 0 ∨ x = 1 := by omega
  · refine q_5 rfl ?_
    refine q_0 ?_
    refine q_34 rfl (by decide) ?_
    refine q_5 rfl ?_
    refine q_3 rfl ?_
    refine q_47 (mj_ev_mono _) [_] rfl rfl rfl (by decide) rfl rfl rfl ?_
    refine s_221T hS0.hn hS.n10 I0_th ha ?_
    first | refine q_eqN0 (by omega) (fun hh => absurd hh (by omega)) (fun hh => ?_) | refine q_eqI0 (fun hh => absurd hh (by omega)) (fun hh => ?_)
    refine q_5 rfl ?_
    refine q_3 rfl ?_
    refine q_47 (mj_ev_mono _) [_] rfl rfl rfl (by decide) rfl rfl rfl ?_
    refine s_221T hS0.hn hS.n10 I0_th hb ?_
    first | refine q_eqN0 (by omega) (fun hh => absurd hh (by omega)) (fun hh => ?_) | refine q_eqI0 (fun hh => absurd hh (by omega)) (fun hh => ?_)
    refine q_5 rfl ?_
    refine q_3 rfl ?_
    refine q_0 ?_
    refine q_47 (mj_ev_mono _) [_, _] rfl rfl rfl (by decide) rfl rfl rfl ?_
    refine s_222T I0_th hx (by omega) ?_
    first | refine q_neN0 (by omega) (fun hh => ?_) (fun hh => absurd hh (by omega)) | refine q_neI0 (fun hh => ?_) (fun hh => absurd (by omega) hh)
    refine q_3 rfl ?_
    refine q_3 rfl ?_
    refine q_eqN (by omega) (by omega) (fun h1 => ?_) (fun h1 => ?_)
    · refine q_1 ?_
      refine q_26 ?_
      first | exact bad (Or.inl h1) | exact bad (Or.inr (Or.inl h2)) | exact bad (Or.inr (Or.inr h3)) | (rw [if_neg (fun q => q.elim h1 (fun q => q.elim (fun q => q h2) (fun q => q h3)))] at k; exact k.fin (fr51 e1) rfl (e1 73 0 rfl))
    · refine q_5 rfl ?_
      refine q_33 rfl (by decide) (hP _ _ _ rfl) ?_
      refine q_0 ?_
      refine q_3 rfl ?_
      first | refine q_add ?_ | refine q_11 rfl ?_
      first | refine q_38E _ rfl (by decide) rfl (by show _ < 66; omega) (by decide) (r1) ?_ | refine q_38E _ rfl (by decide) rfl (by show _ < 66; omega) (by decide) (r2) ?_ | refine q_38 _ rfl (by decide) rfl (by show _ < 66; omega) (by decide) ?_
      refine q_1 ?_
      refine q_neM m1 (fun h2 => ?_) (fun h2 => ?_)
      · refine q_1 ?_
        refine q_26 ?_
        first | exact bad (Or.inl h1) | exact bad (Or.inr (Or.inl h2)) | exact bad (Or.inr (Or.inr h3)) | (rw [if_neg (fun q => q.elim h1 (fun q => q.elim (fun q => q h2) (fun q => q h3)))] at k; exact k.fin (fr51 e1) rfl (e1 73 0 rfl))
      · refine q_5 rfl ?_
        refine q_33 rfl (by decide) (hP _ _ _ rfl) ?_
        refine q_0 ?_
        refine q_3 rfl ?_
        first | refine q_add ?_ | refine q_11 rfl ?_
        first | refine q_38E _ rfl (by decide) rfl (by show _ < 66; omega) (by decide) (r1) ?_ | refine q_38E _ rfl (by decide) rfl (by show _ < 66; omega) (by decide) (r2) ?_ | refine q_38 _ rfl (by decide) rfl (by show _ < 66; omega) (by decide) ?_
        refine q_1 ?_
        refine q_eqM m2 (fun h3 => ?_) (fun h3 => ?_)
        · refine q_5 rfl ?_
          refine q_3 rfl ?_
          refine q_3 rfl ?_
          refine q_47 (mj_ev_mono _) [_, _] rfl rfl rfl (by decide) rfl rfl rfl ?_
          refine s_258 hP hS0.mt hS0.rw ha hb (fun I1 e1 h51 => ?_)
          refine q_6 rfl rfl rfl ?_
          refine q_3 rfl ?_
          first | refine q_neN0 (by omega) (fun hh => absurd hh (by omega)) (fun hh => ?_) | refine q_neI0 (fun hh => absurd hh (by omega)) (fun hh => ?_)
          refine q_3 rfl ?_
          refine q_23 ?_
          refine q_26 ?_
          first | exact bad (Or.inl h1) | exact bad (Or.inr (Or.inl h2)) | exact bad (Or.inr (Or.inr h3)) | (rw [if_neg (fun q => q.elim h1 (fun q => q.elim (fun q => q h2) (fun q => q h3)))] at k; exact k.fin (fr51 e1) rfl (e1 73 0 rfl))
        · refine q_1 ?_
          refine q_26 ?_
          first | exact bad (Or.inl h1) | exact bad (Or.inr (Or.inl h2)) | exact bad (Or.inr (Or.inr h3)) | (rw [if_neg (fun q => q.elim h1 (fun q => q.elim (fun q => q h2) (fun q => q h3)))] at k; exact k.fin (fr51 e1) rfl (e1 73 0 rfl))
  · refine q_5 rfl ?_
    refine q_0 ?_
    refine q_34 rfl (by decide) ?_
    refine q_5 rfl ?_
    refine q_3 rfl ?_
    refine q_47 (mj_ev_mono _) [_] rfl rfl rfl (by decide) rfl rfl rfl ?_
    refine s_221T hS0.hn hS.n10 I0_th ha ?_
    first | refine q_eqN0 (by omega) (fun hh => absurd hh (by omega)) (fun hh => ?_) | refine q_eqI0 (fun hh => absurd hh (by omega)) (fun hh => ?_)
    refine q_5 rfl ?_
    refine q_3 rfl ?_
    refine q_47 (mj_ev_mono _) [_] rfl rfl rfl (by decide) rfl rfl rfl ?_
    refine s_221T hS0.hn hS.n10 I0_th hb ?_
    first | refine q_eqN0 (by omega) (fun hh => absurd hh (by omega)) (fun hh => ?_) | refine q_eqI0 (fun hh => absurd hh (by omega)) (fun hh => ?_)
    refine q_5 rfl ?_
    refine q_3 rfl ?_
    refine q_0 ?_
    refine q_47 (mj_ev_mono _) [_, _] rfl rfl rfl (by decide) rfl rfl rfl ?_
    refine s_222T I0_th hx (by omega) ?_
    first | refine q_neN0 (by omega) (fun hh => ?_) (fun hh => absurd hh (by omega)) | refine q_neI0 (fun hh => ?_) (fun hh => absurd (by omega) hh)
    refine q_3 rfl ?_
    refine q_3 rfl ?_
    refine q_eqN (by omega) (by omega) (fun h1 => ?_) (fun h1 => ?_)
    · refine q_1 ?_
      refine q_26 ?_
      first | exact bad (Or.inl h1) | exact bad (Or.inr (Or.inl h2)) | exact bad (Or.inr (Or.inr h3)) | (rw [if_neg (fun q => q.elim h1 (fun q => q.elim (fun q => q h2) (fun q => q h3)))] at k; exact k.fin (fr51 e1) rfl (e1 73 0 rfl))
    · refine q_5 rfl ?_
      refine q_33 rfl (by decide) (hP _ _ _ rfl) ?_
      refine q_0 ?_
      refine q_3 rfl ?_
      first | refine q_add ?_ | refine q_11 rfl ?_
      first | refine q_38E _ rfl (by decide) rfl (by show _ < 66; omega) (by decide) (r1) ?_ | refine q_38E _ rfl (by decide) rfl (by show _ < 66; omega) (by decide) (r2) ?_ | refine q_38 _ rfl (by decide) rfl (by show _ < 66; omega) (by decide) ?_
      refine q_1 ?_
      refine q_neM m1 (fun h2 => ?_) (fun h2 => ?_)
      · refine q_1 ?_
        refine q_26 ?_
        first | exact bad (Or.inl h1) | exact bad (Or.inr (Or.inl h2)) | exact bad (Or.inr (Or.inr h3)) | (rw [if_neg (fun q => q.elim h1 (fun q => q.elim (fun q => q h2) (fun q => q h3)))] at k; exact k.fin (fr51 e1) rfl (e1 73 0 rfl))
      · refine q_5 rfl ?_
        refine q_33 rfl (by decide) (hP _ _ _ rfl) ?_
        refine q_0 ?_
        refine q_3 rfl ?_
        first | refine q_add ?_ | refine q_11 rfl ?_
        first | refine q_38E _ rfl (by decide) rfl (by show _ < 66; omega) (by decide) (r1) ?_ | refine q_38E _ rfl (by decide) rfl (by show _ < 66; omega) (by decide) (r2) ?_ | refine q_38 _ rfl (by decide) rfl (by show _ < 66; omega) (by decide) ?_
        refine q_1 ?_
        refine q_eqM m2 (fun h3 => ?_) (fun h3 => ?_)
        · refine q_5 rfl ?_
          refine q_3 rfl ?_
          refine q_3 rfl ?_
          refine q_47 (mj_ev_mono _) [_, _] rfl rfl rfl (by decide) rfl rfl rfl ?_
          refine s_258 hP hS0.mt hS0.rw ha hb (fun I1 e1 h51 => ?_)
          refine q_6 rfl rfl rfl ?_
          refine q_3 rfl ?_
          first | refine q_neN0 (by omega) (fun hh => ?_) (fun hh => absurd hh (by omega)) | refine q_neI0 (fun hh => ?_) (fun hh => absurd (by omega) hh)
          refine q_5 rfl ?_
          first | refine q_31E rfl (by decide) h51 ?_ | refine q_31 rfl (by decide) ?_
          refine q_26 ?_
          first | exact bad (Or.inl h1) | exact bad (Or.inr (Or.inl h2)) | exact bad (Or.inr (Or.inr h3)) | (rw [if_neg (fun q => q.elim h1 (fun q => q.elim (fun q => q h2) (fun q => q h3)))] at k; exact k.fin (fr51 e1) rfl (e1 73 0 rfl))
        · refine q_1 ?_
          refine q_26 ?_
          first | exact bad (Or.inl h1) | exact bad (Or.inr (Or.inl h2)) | exact bad (Or.inr (Or.inr h3)) | (rw [if_neg (fun q => q.elim h1 (fun q => q.elim (fun q => q h2) (fun q => q h3)))] at k; exact k.fin (fr51 e1) rfl (e1 73 0 rfl))
theorem s_259F {x y z : Int32} (hS : MS A I L) (hx : (x < 0 ∨ nI A.w.n ≤ x) ∨ (∃ a, a < A.w.n ∧ x = nI a) ∧ ((y < 0 ∨ nI A.w.n ≤ y) ∨ (∃ b, b < A.w.n ∧ y = nI b) ∧ (z < nI 0 ∨ nI 1 < z))) (k : kM Q I L P 1 (.int (nI 0))) : mj_ev (d + 12) 259 [.ref 73, .int x, .int y, .int z] (107, I, L, P) Q := by
  refine ⟨rfl, ?_⟩
  have hS0 := hS.i0
  show mj_run (mj_ev (d + 11)) k259 Q (k259 0) [some (.ref 73), some (.int x), some (.int y), some (.int z), none] [] (107, I, L, P) 0 0
  rcases hx with hx | ⟨⟨a, ha, rfl⟩, hy | ⟨⟨b, hb, rfl⟩, hz⟩⟩
  · refine q_5 rfl ?_
    refine q_0 ?_
    refine q_34 rfl (by decide) ?_
    refine q_5 rfl ?_
    refine q_3 rfl ?_
    refine q_47 (mj_ev_mono _) [_] rfl rfl rfl (by decide) rfl rfl rfl ?_
    refine s_221F hS0.hn hS.n10 I0_th hx ?_
    first | refine q_eqN0 (by omega) (fun hh => ?_) (fun hh => absurd hh (by omega)) | refine q_eqI0 (fun hh => ?_) (fun hh => absurd (by omega) hh)
    refine q_0 ?_
    refine q_26 ?_
    exact k.bad
  · refine q_5 rfl ?_
    refine q_0 ?_
    refine q_34 rfl (by decide) ?_
    refine q_5 rfl ?_
    refine q_3 rfl ?_
    refine q_47 (mj_ev_mono _) [_] rfl rfl rfl (by decide) rfl rfl rfl ?_
    refine s_221T hS0.hn hS.n10 I0_th ha ?_
    first | refine q_eqN0 (by omega) (fun hh => absurd hh (by omega)) (fun hh => ?_) | refine q_eqI0 (fun hh => absurd hh (by omega)) (fun hh => ?_)
    refine q_5 rfl ?_
    refine q_3 rfl ?_
    refine q_47 (mj_ev_mono _) [_] rfl rfl rfl (by decide) rfl rfl rfl ?_
    refine s_221F hS0.hn hS.n10 I0_th hy ?_
    first | refine q_eqN0 (by omega) (fun hh => ?_) (fun hh => absurd hh (by omega)) | refine q_eqI0 (fun hh => ?_) (fun hh => absurd (by omega) hh)
    refine q_0 ?_
    refine q_26 ?_
    exact k.bad
  · refine q_5 rfl ?_
    refine q_0 ?_
    refine q_34 rfl (by decide) ?_
    refine q_5 rfl ?_
    refine q_3 rfl ?_
    refine q_47 (mj_ev_mono _) [_] rfl rfl rfl (by decide) rfl rfl rfl ?_
    refine s_221T hS0.hn hS.n10 I0_th ha ?_
    first | refine q_eqN0 (by omega) (fun hh => absurd hh (by omega)) (fun hh => ?_) | refine q_eqI0 (fun hh => absurd hh (by omega)) (fun hh => ?_)
    refine q_5 rfl ?_
    refine q_3 rfl ?_
    refine q_47 (mj_ev_mono _) [_] rfl rfl rfl (by decide) rfl rfl rfl ?_
    refine s_221T hS0.hn hS.n10 I0_th hb ?_
    first | refine q_eqN0 (by omega) (fun hh => absurd hh (by omega)) (fun hh => ?_) | refine q_eqI0 (fun hh => absurd hh (by omega)) (fun hh => ?_)
    refine q_5 rfl ?_
    refine q_3 rfl ?_
    refine q_0 ?_
    refine q_47 (mj_ev_mono _) [_, _] rfl rfl rfl (by decide) rfl rfl rfl ?_
    refine s_222F I0_th hz ?_
    first | refine q_neN0 (by omega) (fun hh => absurd hh (by omega)) (fun hh => ?_) | refine q_neI0 (fun hh => absurd hh (by omega)) (fun hh => ?_)
    refine q_0 ?_
    refine q_26 ?_
    exact k.bad
end M
