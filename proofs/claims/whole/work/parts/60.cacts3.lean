/-! the class's acts (3): it holds, undoes, sees, forgets, keeps an image -/
section C
variable {I : mj_I} {L : mj_L} {P : mj_P} {Q : mj_Q} {d n r t a b : Nat} {A : AS} {w : WT} {c h : Nat → Nat} {m : MM}
theorem cx_ge {p : Nat} (hp : n ≤ p) : cx n c p = 0 := if_neg (by omega)
theorem mx_ge {p : Nat} (hp : n ≤ p) : mx n m p = none := if_neg (by omega)
theorem c_109 {N : Nat} (hP : PS t P) (hS : CS A I) (h1N : 1 ≤ N) (hN : N ≤ 20) (hy : ¬ nI 999 < A.y + nI N) (k : kC Q I L P (A.hold N) (.inl (some (.int (A.y + nI N))))) : mj_ev (d + 12) 109 [.ref 0, .int (nI N)] (107, I, L, P) Q := by
  refine ⟨rfl, ?_⟩
  have hn10 := hS.cb.n10
  have y0 := hS.cb.hy
  have h10 : ∀ p, p < A.w.n → A.h p < 10 := fun p hp => hS.cb.cw.h10 hp
  have gm0 := hS.cb.cw.gm
  have L53 : ∀ I2 : mj_I, CS A.kpa I2 → (∀ c j, 73 ≤ c → I2 c j = I c j) → (N ≤ 8 → ∀ p, p < A.w.n → I2 52 (10 * N + p) = mI ((many A.w A.c (A.h, A.m) N).2 p)) → ∀ i, i ≤ A.w.n → ∀ I', Eqf (frm [33, 34] []) I2 I' → (∀ p, p < i → I' 33 p = nI (hu A.h N p) ∧ I' 34 p = mI ((many A.w A.c (A.h, A.m) N).2 p)) → (∀ p, i ≤ p → I' 33 p = I2 33 p ∧ I' 34 p = I2 34 p) → mj_run (mj_ev (d + 11)) k109 Q (k109 53) [some (.ref 0), some (.int (nI N)), some (.ref 51), some (.int (nI i))] [] (107, I', L, P) 0 0 := by
    intro I2 hS2 g73 h52
    refine loop_up ?_ (fun i hi ih => ?_)
    · intro I' e' g1 g2
      have hn : I' 3 0 = nI A.w.n := (e' 3 0 rfl).trans hS2.cb.hn
      have y1 : I' 31 0 = A.y := (e' 31 0 rfl).trans hS2.cb.hy
      have y2 : uS (mj_upI I' 31 0 (A.y + nI N)) 31 0 = A.y + nI N := (uS_f 31 0 rfl).trans upI_s
      refine q_3 rfl ?_
      refine q_5 rfl ?_
      refine q_33 rfl (by decide) (hP _ _ _ rfl) ?_
      first | refine q_31E rfl (by decide) hn ?_ | refine q_31 rfl (by decide) ?_
      refine q_geN (by omega) (by omega) (fun hh => ?_) (fun hh => absurd hh (by omega))
      refine q_5 rfl ?_
      refine q_33 rfl (by decide) (hP _ _ _ rfl) ?_
      refine q_18 rfl ?_
      first | refine q_31E rfl (by decide) y1 ?_ | refine q_31E rfl (by decide) y2 ?_ | refine q_31 rfl (by decide) ?_
      refine q_3 rfl ?_
      refine q_11 rfl ?_
      refine q_34 rfl (by decide) ?_
      refine q_5 rfl ?_
      refine q_47 (mj_ev_mono _) [] rfl rfl rfl (by decide) rfl rfl rfl ?_
      refine c_157 hP ?_
      refine q_5 rfl ?_
      refine q_33 rfl (by decide) (hP _ _ _ rfl) ?_
      first | refine q_31E rfl (by decide) y1 ?_ | refine q_31E rfl (by decide) y2 ?_ | refine q_31 rfl (by decide) ?_
      refine q_26 ?_
      refine k _ L (hS2.rowS (ro := (A.y + nI N, A.c, (many A.w A.c (A.h, A.m) N).1, (many A.w A.c (A.h, A.m) N).2)) ((e'.to rfl rfl).up rfl) upI_s ⟨hn10, fun p hp => (e' 32 p rfl).trans (hS2.cb.cw.2.1 p hp), fun p hp => ?_, fun p hp => ?_, fun p hp => hS.cb.cw.c10 hp, fun p hp => ?_, many_gm gm0 N⟩) (fun c j h73 => ?_) (fun _ _ _ => rfl)
      · show I' 33 p = nI (cx A.w.n (many A.w A.c (A.h, A.m) N).1 p)
        rcases Nat.lt_or_ge p A.w.n with hl | hl
        · rw [(g1 p hl).1, cx_lt hl, many_1]
        · rw [(g2 p hl).1, hS2.cb.cw.2.2.1 p hp]
          exact congrArg nI ((cx_ge hl).trans (cx_ge hl).symm)
      · show I' 34 p = mI (mx A.w.n (many A.w A.c (A.h, A.m) N).2 p)
        rcases Nat.lt_or_ge p A.w.n with hl | hl
        · rw [(g1 p hl).2, mx_lt hl]
        · rw [(g2 p hl).2, hS2.cb.cw.2.2.2.1 p hp]
          exact congrArg mI ((mx_ge hl).trans (mx_ge hl).symm)
      · show (many A.w A.c (A.h, A.m) N).1 p < 10
        rw [many_1]
        show hu A.h N p < 10
        rw [hu_eq (h10 p hp)]
        split <;> omega
      · exact (uS_f c j (frm_hi h73 rfl rfl)).trans ((congrFun (upI_c (by omega)) j).trans ((e' c j (frm_hi h73 rfl rfl)).trans (g73 c j h73)))
    · intro I' e' g1 g2
      have hn : I' 3 0 = nI A.w.n := (e' 3 0 rfl).trans hS2.cb.hn
      have r1 : mj_upI I' 34 i (mI ((many A.w A.c (A.h, A.m) N).2 i)) 33 i = nI (A.h i) := (g2 i (by omega)).1.trans (hS2.cb.cw.hol hi)
      have mn9 : (if nI (A.h i + N) < nI 9 then nI (A.h i + N) else nI 9) = nI (hu A.h N i) := by
        have := h10 i hi
        rw [hu_eq this]
        by_cases e : A.h i + N < 9
        · rw [if_pos e, if_pos (nI_lt e (by omega))]
        · rw [if_neg e, if_neg (nI_nlt (by omega) (by omega))]
      refine q_3 rfl ?_
      refine q_5 rfl ?_
      refine q_33 rfl (by decide) (hP _ _ _ rfl) ?_
      first | refine q_31E rfl (by decide) hn ?_ | refine q_31 rfl (by decide) ?_
      refine q_geN (by omega) (by omega) (fun hh => absurd hh (by omega)) (fun hh => ?_)
      refine q_5 rfl ?_
      refine q_33 rfl (by decide) (hP _ _ _ rfl) ?_
      refine q_33 rfl (by decide) (hP _ _ _ rfl) ?_
      refine q_3 rfl ?_
      refine q_5 rfl ?_
      refine q_3 rfl ?_
      refine q_3 rfl ?_
      refine q_47 (mj_ev_mono _) [_, _] rfl rfl rfl (by decide) rfl rfl rfl ?_
      refine ca_16 (f := N) (v := (many A.w A.c (A.h, A.m) N).2 i) hP (by omega) (by omega) (fun h8 => (e' 52 _ rfl).trans (h52 h8 i hi)) (fun h8 => many_9 h10 h8 i hi) ?_
      refine q_42 _ rfl (by decide) rfl (by show _ < 10; omega) (by decide) ?_
      refine q_5 rfl ?_
      refine q_33 rfl (by decide) (hP _ _ _ rfl) ?_
      refine q_33 rfl (by decide) (hP _ _ _ rfl) ?_
      refine q_3 rfl ?_
      refine q_0 ?_
      refine q_5 rfl ?_
      refine q_33 rfl (by decide) (hP _ _ _ rfl) ?_
      refine q_33 rfl (by decide) (hP _ _ _ rfl) ?_
      refine q_3 rfl ?_
      first | refine q_38E _ rfl (by decide) rfl (by show _ < 10; omega) (by decide) (r1) ?_ | refine q_38 _ rfl (by decide) rfl (by show _ < 10; omega) (by decide) ?_
      refine q_3 rfl ?_
      first | refine q_add ?_ | refine q_11 rfl ?_
      refine q_71 rfl ?_
      rw [mn9]
      refine q_42 _ rfl (by decide) rfl (by show _ < 10; omega) (by decide) ?_
      first | refine q_inc rfl rfl rfl ?_ | refine q_9 rfl rfl rfl ?_
      refine q_23 ?_
      refine ih _ ((e'.up rfl).up rfl) (fun p hp => ?_) (fun p hp => ?_)
      · by_cases e : p = i
        · subst e
          exact ⟨upI_s, (congrFun (upI_c (by decide)) _).trans upI_s⟩
        · have := g1 p (by omega)
          exact ⟨(upI_j e).trans this.1, (congrFun (upI_c (by decide)) _).trans ((upI_j e).trans this.2)⟩
      · have := g2 p (by omega)
        exact ⟨(upI_j (by omega)).trans this.1, (congrFun (upI_c (by decide)) _).trans ((upI_j (by omega)).trans this.2)⟩
  show mj_run (mj_ev (d + 11)) k109 Q (k109 0) [some (.ref 0), some (.int (nI N)), none, none] [] (107, I, L, P) 0 0
  refine q_3 rfl ?_
  refine q_0 ?_
  refine q_ltN (by omega) (by omega) (fun hh => absurd hh (by omega)) (fun hh => ?_)
  refine q_3 rfl ?_
  refine q_0 ?_
  refine q_gtN (by omega) (by omega) (fun hh => absurd hh (by omega)) (fun hh => ?_)
  refine q_5 rfl ?_
  refine q_33 rfl (by decide) (hP _ _ _ rfl) ?_
  first | refine q_31E rfl (by decide) y0 ?_ | refine q_31 rfl (by decide) ?_
  refine q_3 rfl ?_
  refine q_11 rfl ?_
  refine q_0 ?_
  refine q_leI (fun _ => ?_) (fun q => absurd (Int32.not_lt.mp hy) q)
  refine q_5 rfl ?_
  refine q_33 rfl (by decide) (hP _ _ _ rfl) ?_
  refine q_47 (mj_ev_mono _) [] rfl rfl rfl (by decide) rfl rfl rfl ?_
  refine c_10 hP hS (fun I1 e1 hS1 => ?_)
  refine q_5 rfl ?_
  refine q_3 rfl ?_
  refine q_47 (mj_ev_mono _) [_] rfl rfl rfl (by decide) rfl rfl rfl ?_
  refine c_153 hP hS1 (by omega) (fun I2 e2 hS2 g1 g2 => ?_)
  refine q_8 rfl rfl rfl ?_
  refine q_0 ?_
  refine q_6 rfl rfl rfl ?_
  exact L53 I2 hS2 (fun c j h73 => (e2 c j (frm_hi h73 rfl rfl)).trans (e1 c j (frm_hi h73 rfl rfl))) (fun h8 p hp => g1 h8 N (by omega) p hp) 0 (by omega) I2 Eqf.rf (fun p hp => absurd hp (by omega)) (fun p _ => ⟨rfl, rfl⟩)
theorem c_109R {x : Int32} (hP : PS t P) (hS : CS A I) (hx : x < nI 1 ∨ nI 20 < x ∨ nI 999 < A.y + x) (k : kC Q I L P (A.rfs 1) (.inl (some (.int (-(nI 1)))))) : mj_ev (d + 12) 109 [.ref 0, .int x] (107, I, L, P) Q := by
  refine ⟨rfl, ?_⟩
  have r1 := hS.cb.rf (k := 1) (by omega)
  have y0 := hS.cb.hy
  have L26 : mj_run (mj_ev (d + 11)) k109 Q (k109 26) [some (.ref 0), some (.int x), none, none] [] (107, I, L, P) 0 0 := by
    refine q_5 rfl ?_
    refine q_33 rfl (by decide) (hP _ _ _ rfl) ?_
    refine q_0 ?_
    refine q_20 rfl rfl ?_
    first | refine q_38E _ rfl (by decide) rfl (by show _ < 3; omega) (by decide) (r1) ?_ | refine q_38 _ rfl (by decide) rfl (by show _ < 3; omega) (by decide) ?_
    refine q_0 ?_
    first | refine q_add ?_ | refine q_11 rfl ?_
    refine q_42 _ rfl (by decide) rfl (by show _ < 3; omega) (by decide) ?_
    refine q_1 ?_
    refine q_26 ?_
    exact k.ref (by omega) hS
  show mj_run (mj_ev (d + 11)) k109 Q (k109 0) [some (.ref 0), some (.int x), none, none] [] (107, I, L, P) 0 0
  by_cases h1 : x < nI 1
  · refine q_3 rfl ?_
    refine q_0 ?_
    refine q_ltI (fun _ => ?_) (fun z => absurd h1 z)
    exact L26
  · by_cases h2 : nI 20 < x
    · refine q_3 rfl ?_
      refine q_0 ?_
      refine q_ltI (fun z => absurd z h1) (fun _ => ?_)
      refine q_3 rfl ?_
      refine q_0 ?_
      refine q_gtI (fun _ => ?_) (fun z => absurd h2 z)
      exact L26
    · have h3 := (hx.resolve_left h1).resolve_left h2
      refine q_3 rfl ?_
      refine q_0 ?_
      refine q_ltI (fun z => absurd z h1) (fun _ => ?_)
      refine q_3 rfl ?_
      refine q_0 ?_
      refine q_gtI (fun z => absurd z h2) (fun _ => ?_)
      refine q_5 rfl ?_
      refine q_33 rfl (by decide) (hP _ _ _ rfl) ?_
      first | refine q_31E rfl (by decide) y0 ?_ | refine q_31 rfl (by decide) ?_
      refine q_3 rfl ?_
      refine q_11 rfl ?_
      refine q_0 ?_
      refine q_leI (fun z => absurd h3 (Int32.not_lt.mpr z)) (fun _ => ?_)
      exact L26
theorem CS.seS {se : SE} {I' : mj_I} (hS : CS A I) (e : Eqf (frm [36, 37, 38] [(30, 2), (65, 0)]) I I') (h65 : I' 65 0 = nI 0) (hl : I' 30 2 = nI se.length) (h8 : se.length ≤ 8) (hs : ∀ (i : Nat) (x : Nat × Nat × Option Nat), se[i]? = some x → I' 36 i = nI x.1 ∧ I' 37 i = nI x.2.1 ∧ I' 38 i = mI x.2.2 ∧ x.1 < A.w.n ∧ 1 ≤ x.2.1 ∧ x.2.1 ≤ 20 ∧ (∀ q, x.2.2 = some q → q < A.w.n)) : CS (A.si (A.im.1, A.ac, se)) I' := by
  obtain ⟨hB, hO, hK, hU, hZ, hD⟩ := hS
  obtain ⟨h1, h2, ⟨f0, h3, h4, h5⟩, h6, h7, -⟩ := hB.2.1
  exact ⟨hB.si (e.to rfl rfl) ⟨(e 31 0 rfl).trans h1, h2.fr (funext fun j => e 32 j rfl) (funext fun j => e 33 j rfl) (funext fun j => e 34 j rfl), ⟨f0, h3, (e 30 3 rfl).trans h4, fun i ro hi => (h5 i ro hi).fr (fun j _ _ => e 35 j rfl)⟩, (e 30 1 rfl).trans h6, h7, hl, h8, hs⟩, hO.fr (e 48 4 rfl) (funext fun j => e 49 j rfl), hK.fr (e 51 4 rfl) (funext fun j => e 52 j rfl), hU.fr (e 55 1 rfl) (funext fun j => e 56 j rfl) (funext fun j => e 57 j rfl) (fun k h1 h8 hk => ⟨k, h1, h8, (e 48 4 rfl).trans hk⟩), hZ.fr (e 60 1 rfl) (e 60 2 rfl) (funext fun j => e 62 j rfl) (funext fun j => e 63 j rfl), Or.inl h65⟩
theorem c_134 (hP : PS t P) (hS : CS A I) (k : kC Q I L P A.forget (.inl none)) : mj_ev (d + 12) 134 [.ref 0] (107, I, L, P) Q := by
  refine ⟨rfl, ?_⟩
  show mj_run (mj_ev (d + 11)) k134 Q (k134 0) [some (.ref 0)] [] (107, I, L, P) 0 0
  have E : Eqf (frm [36, 37, 38] [(30, 2), (65, 0)]) I (mj_upI (mj_upI I 30 2 (nI 0)) 65 0 (nI 0)) := (Eqf.rf.up rfl).up rfl
  refine q_5 rfl ?_
  refine q_33 rfl (by decide) (hP _ _ _ rfl) ?_
  refine q_0 ?_
  refine q_34 rfl (by decide) ?_
  refine q_5 rfl ?_
  refine q_33 rfl (by decide) (hP _ _ _ rfl) ?_
  refine q_0 ?_
  refine q_35 rfl (by decide) (by first | exact Or.inl rfl | exact Or.inr rfl | assumption) ?_
  refine q_25 ?_
  exact k _ L (hS.seS (se := []) E rfl rfl (by decide) (fun i x hx => (by cases hx))) (fun c j h73 => E c j (frm_hi h73 rfl rfl)) (fun _ _ _ => rfl)
end C
