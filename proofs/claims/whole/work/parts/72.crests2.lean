/-! the class: rests, mates -/
section C
variable {I : mj_I} {L : mj_L} {P : mj_P} {Q : mj_Q} {d n r t a b : Nat} {A : AS} {w : WT} {c h : Nat → Nat} {m : MM} {al : Nat → Nat → Int32} {fr S : Nat → Bool}
theorem c_96 (hP : PS t P) (hS : CS A I) (hT : TI A.w A.c A.h I) (k : ∀ I', Eqf (frm [61, 62, 63, 64] [(60, 1), (60, 2)]) I I' → CS A I' → RC A.w.n (sRS A) I' → Q (.inl none) (107, I', L, P)) : mj_ev (d + 14) 96 [.ref 60, .int (nI (maskF (frs A.m) A.w.n))] (107, I, L, P) Q := by
  refine ⟨rfl, ?_⟩
  have hn10 := hS.cb.n10
  have fin : ∀ I', Eqf (frm [61, 62, 63, 64] [(60, 1), (60, 2)]) I I' → I' 60 1 = nI 1 → RC A.w.n (sRS A) I' → CS A I' := by
    intro I' e h1 hR
    obtain ⟨hB, hO, hK, hU, hZ, hD⟩ := hS
    exact ⟨hB.fm e (by intro c hc j; simp only [List.mem_cons, List.not_mem_nil, or_false] at hc; rcases hc with rfl | rfl | rfl | rfl <;> rfl) (by intro q hq; simp only [List.mem_cons, List.not_mem_nil, or_false] at hq; rcases hq with rfl | rfl <;> rfl), hO.fr (e 48 4 rfl) (funext fun j => e 49 j rfl), hK.fr (e 51 4 rfl) (funext fun j => e 52 j rfl), hU.fr (e 55 1 rfl) (funext fun j => e 56 j rfl) (funext fun j => e 57 j rfl) (fun k h1 h8 hk => ⟨k, h1, h8, (e 48 4 rfl).trans hk⟩), Or.inr ⟨h1, hR.1, hR.2.1, hR.2.2⟩, hD.fr (fun j => e 65 j rfl) (funext fun j => e 66 j rfl)⟩
  show mj_run (mj_ev (d + 13)) k96 Q (k96 0) [some (.ref 60), some (.int (nI (maskF (frs A.m) A.w.n))), none] [] (107, I, L, P) 0 0
  rcases hS.2.2.2.2.1 with hZ | ⟨hZ, z1, z2, z3⟩
  · have L24 : ∀ I1, Eqf (frm [61] [(60, 1), (60, 2)]) I I1 → I1 60 1 = nI 1 → I1 60 2 = nI 0 → (∀ p, p < 10 → I1 61 p = -(nI 1)) → ∀ i, i ≤ 10 → ∀ I', Eqf (frm [62, 63] []) I1 I' → (∀ p, p < i → I' 62 p = -(nI 1) ∧ I' 63 p = nI 0) → mj_run (mj_ev (d + 13)) k96 Q (k96 24) [some (.ref 60), some (.int (nI (maskF (frs A.m) A.w.n))), some (.int (nI i))] [] (107, I', L, P) 0 0 := by
      intro I1 e1 f1 f2 f3
      refine loop_up ?_ (fun i hi ih => ?_)
      · intro I' e' z
        have E : Eqf (frm [61, 62, 63, 64] [(60, 1), (60, 2)]) I I' := (e1.to rfl rfl).tr (e'.to rfl rfl)
        have r9 := c_97 (d := d) (L := L) (fr := frs A.m) (c := A.c) (h := A.h) hP hn10 10 A.w.n hn10 (Nat.le_refl _) (frs A.m) (fun _ => none) [] I'
        rw [Nat.sub_self, show maskF (fun q => frs A.m q && !frs A.m q) A.w.n = 0 from (by rw [mask_none A.w.n]; exact mask_congr (fun q _ => by simp))] at r9
        have hRC : RC A.w.n [] I' := ⟨(e' 60 2 rfl).trans f2, fun p hp => (z p (by omega)).1, fun p hp => (z p (by omega)).2.trans (congrArg nI (by rw [mask_none A.w.n]; rfl))⟩
        have hlen : ([] : List MM).length + (GG (okA (alk A.w A.c A.h)) (lik A.w A.c A.h) (frs A.m) A.w.n A.w.n (frs A.m) (fun _ => none)).length < 2 ^ 31 := by
          have l1 := List.length_filter_le (stb (okA (alk A.w A.c A.h)) (lik A.w A.c A.h) (frs A.m) A.w.n) (rs (okA (alk A.w A.c A.h)) A.w.n A.w.n (frs A.m) (fun _ => none))
          have l2 := rs_len (ok := okA (alk A.w A.c A.h)) (n := A.w.n) A.w.n (frs A.m) (fun _ => none) (Nat.le_refl _)
          have l3 := fct_le A.w.n hn10
          unfold GG
          rw [List.length_nil]
          omega
        refine q_3 rfl ?_
        refine q_0 ?_
        refine q_geN (by omega) (by omega) (fun hh => ?_) (fun hh => absurd hh (by omega))
        refine q_5 rfl ?_
        refine q_0 ?_
        refine q_3 rfl ?_
        refine q_0 ?_
        refine q_47 (mj_ev_mono _) [_, _, _] rfl rfl rfl (by decide) rfl rfl rfl ?_
        refine r9 _ ⟨fun p hp => (E 56 p rfl).trans (hT.1 p hp), fun x y hx hy hxy => (E 57 _ rfl).trans (hT.2 x y hx hy hxy)⟩ ((E 3 0 rfl).trans hS.cb.hn) (fun _ _ q => q) (fun q hq => absurd hq (by omega)) (fun p hp q hq => by cases hq) (fun _ _ => rfl) (fun a b _ _ _ fa _ sa => by rw [fa] at sa; cases sa) (fun p hp _ => (e' 61 p rfl).trans (f3 p (by omega))) (fun p _ fp sp => by rw [fp] at sp; cases sp) hRC hlen (fun I3 e3 _ hR3 => ?_)
        refine q_25 ?_
        exact k I3 (E.tr (e3.to rfl rfl)) (fin I3 (E.tr (e3.to rfl rfl)) ((e3 60 1 rfl).trans ((e' 60 1 rfl).trans f1)) hR3) hR3
      · intro I' e' z
        refine q_3 rfl ?_
        refine q_0 ?_
        refine q_geN (by omega) (by omega) (fun hh => absurd hh (by omega)) (fun hh => ?_)
        refine q_5 rfl ?_
        refine q_33 rfl (by decide) (hP _ _ _ rfl) ?_
        refine q_3 rfl ?_
        refine q_1 ?_
        refine q_42 _ rfl (by decide) rfl (by show _ < 10; omega) (by decide) ?_
        refine q_5 rfl ?_
        refine q_33 rfl (by decide) (hP _ _ _ rfl) ?_
        refine q_3 rfl ?_
        refine q_0 ?_
        refine q_42 _ rfl (by decide) rfl (by show _ < 10; omega) (by decide) ?_
        first | refine q_inc rfl rfl rfl ?_ | refine q_9 rfl rfl rfl ?_
        refine q_23 ?_
        refine ih _ ((e'.up rfl).up rfl) (fun p hp => ?_)
        by_cases e : p = i
        · subst e
          exact ⟨by rw [upI_c (by decide)]; exact upI_s, upI_s⟩
        · rw [upI_c (by decide), upI_j e, upI_j e, upI_c (by decide)]
          exact z p (by omega)
    refine q_5 rfl ?_
    first | refine q_31E rfl (by decide) hZ ?_ | refine q_31 rfl (by decide) ?_
    first | refine q_eqN0 (by omega) (fun hh => ?_) (fun hh => absurd hh (by omega)) | refine q_eqI0 (fun hh => ?_) (fun hh => absurd (by omega) hh)
    refine q_5 rfl ?_
    refine q_0 ?_
    refine q_35 rfl (by decide) (by first | exact Or.inl rfl | exact Or.inr rfl | assumption) ?_
    refine q_5 rfl ?_
    refine q_0 ?_
    refine q_34 rfl (by decide) ?_
    refine q_5 rfl ?_
    refine q_47 (mj_ev_mono _) [] rfl rfl rfl (by decide) rfl rfl rfl ?_
    refine c_95 hP (fun I1 e1 z => ?_)
    refine q_0 ?_
    refine q_6 rfl rfl rfl ?_
    exact L24 I1 (((Eqf.rf.up rfl).up rfl).tr (e1.to rfl rfl)) (e1 60 1 rfl) (e1 60 2 rfl) z 0 (by omega) I1 Eqf.rf (fun p hp => absurd hp (by omega))
  · refine q_5 rfl ?_
    first | refine q_31E rfl (by decide) hZ ?_ | refine q_31 rfl (by decide) ?_
    first | refine q_eqN0 (by omega) (fun hh => absurd hh (by omega)) (fun hh => ?_) | refine q_eqI0 (fun hh => absurd hh (by omega)) (fun hh => ?_)
    refine q_25 ?_
    exact k I Eqf.rf hS ⟨z1, z2, z3⟩
theorem c_126N (hP : PS t P) (hS : CS A I) (k : kC Q I L P A (.inl (some (.int (nI (sRS A).length))))) : mj_ev (d + 15) 126 [.ref 0, .int (-(nI 1))] (107, I, L, P) Q := by
  refine ⟨rfl, ?_⟩
  show mj_run (mj_ev (d + 14)) k126 Q (k126 0) [some (.ref 0), some (.int (-(nI 1)))] [] (107, I, L, P) 1 6
  refine q_3 rfl ?_
  refine q_1 ?_
  refine q_eqI (fun _ => ?_) (fun z => absurd rfl z)
  refine q_5 rfl ?_
  refine q_47 (mj_ev_mono _) [] rfl rfl rfl (by decide) rfl rfl rfl ?_
  refine c_154 hP hS (fun I1 e1 hS1 hT1 hG1 => ?_)
  refine q_19 rfl ?_
  refine q_5 rfl ?_
  refine q_33 rfl (by decide) (hP _ _ _ rfl) ?_
  refine q_5 rfl ?_
  refine q_47 (mj_ev_mono _) [] rfl rfl rfl (by decide) rfl rfl rfl ?_
  refine c_152 hP hS1.cb.ct hS1.cb.cw ?_
  refine q_47 (mj_ev_mono _) [_] rfl rfl rfl (by decide) rfl rfl rfl ?_
  refine c_96 hP hS1 hT1 (fun I2 e2 hS2 hR2 => ?_)
  have h2 := hR2.1
  refine q_3 rfl ?_
  refine q_1 ?_
  refine q_neI (fun z => absurd rfl z) (fun _ => ?_)
  refine q_5 rfl ?_
  refine q_33 rfl (by decide) (hP _ _ _ rfl) ?_
  first | refine q_31E rfl (by decide) h2 ?_ | refine q_31 rfl (by decide) ?_
  refine q_23 ?_
  refine q_26 ?_
  exact k.fm (cs := [13, 15, 49, 56, 57, 61, 62, 63, 64]) (fs := [(48, 4), (55, 1), (60, 1), (60, 2)]) ((e1.to rfl rfl).tr (e2.to rfl rfl)) hS2 rfl rfl
theorem c_126 (hP : PS t P) (hS : CS A I) (ha : a < A.w.n) (k : kC Q I L P A (.inl (some (.int (mI (((sRS A).head?.getD (fun _ => none)) a)))))) : mj_ev (d + 15) 126 [.ref 0, .int (nI a)] (107, I, L, P) Q := by
  refine ⟨rfl, ?_⟩
  have hn10 := hS.cb.n10
  show mj_run (mj_ev (d + 14)) k126 Q (k126 0) [some (.ref 0), some (.int (nI a))] [] (107, I, L, P) 1 6
  refine q_3 rfl ?_
  refine q_1 ?_
  refine q_eqI (fun z => absurd z (mI_ne (by omega))) (fun _ => ?_)
  refine q_5 rfl ?_
  refine q_3 rfl ?_
  refine q_47 (mj_ev_mono _) [_] rfl rfl rfl (by decide) rfl rfl rfl ?_
  refine c_149T hP hS.cb.hn hn10 ha ?_
  refine q_5 rfl ?_
  refine q_47 (mj_ev_mono _) [] rfl rfl rfl (by decide) rfl rfl rfl ?_
  refine c_154 hP hS (fun I1 e1 hS1 hT1 hG1 => ?_)
  refine q_19 rfl ?_
  refine q_5 rfl ?_
  refine q_33 rfl (by decide) (hP _ _ _ rfl) ?_
  refine q_5 rfl ?_
  refine q_47 (mj_ev_mono _) [] rfl rfl rfl (by decide) rfl rfl rfl ?_
  refine c_152 hP hS1.cb.ct hS1.cb.cw ?_
  refine q_47 (mj_ev_mono _) [_] rfl rfl rfl (by decide) rfl rfl rfl ?_
  refine c_96 hP hS1 hT1 (fun I2 e2 hS2 hR2 => ?_)
  have h2 := hR2.2.1 a ha
  refine q_3 rfl ?_
  refine q_1 ?_
  refine q_neI (fun _ => ?_) (fun z => absurd (mI_ne (by omega)) z)
  refine q_5 rfl ?_
  refine q_33 rfl (by decide) (hP _ _ _ rfl) ?_
  refine q_33 rfl (by decide) (hP _ _ _ rfl) ?_
  refine q_3 rfl ?_
  first | refine q_38E _ rfl (by decide) rfl (by show _ < 10; omega) (by decide) (h2) ?_ | refine q_38 _ rfl (by decide) rfl (by show _ < 10; omega) (by decide) ?_
  refine q_26 ?_
  exact k.fm (cs := [13, 15, 49, 56, 57, 61, 62, 63, 64]) (fs := [(48, 4), (55, 1), (60, 1), (60, 2)]) ((e1.to rfl rfl).tr (e2.to rfl rfl)) hS2 rfl rfl
theorem c_127 (hP : PS t P) (hS : CS A I) (ha : a < A.w.n) (k : kC Q I L P A (.inl (some (.int (nI (maskF (inR (sRS A) a) A.w.n)))))) : mj_ev (d + 15) 127 [.ref 0, .int (nI a)] (107, I, L, P) Q := by
  refine ⟨rfl, ?_⟩
  have hn10 := hS.cb.n10
  show mj_run (mj_ev (d + 14)) k127 Q (k127 0) [some (.ref 0), some (.int (nI a))] [] (107, I, L, P) 1 6
  refine q_5 rfl ?_
  refine q_3 rfl ?_
  refine q_47 (mj_ev_mono _) [_] rfl rfl rfl (by decide) rfl rfl rfl ?_
  refine c_149T hP hS.cb.hn hn10 ha ?_
  refine q_5 rfl ?_
  refine q_47 (mj_ev_mono _) [] rfl rfl rfl (by decide) rfl rfl rfl ?_
  refine c_154 hP hS (fun I1 e1 hS1 hT1 hG1 => ?_)
  refine q_19 rfl ?_
  refine q_5 rfl ?_
  refine q_33 rfl (by decide) (hP _ _ _ rfl) ?_
  refine q_5 rfl ?_
  refine q_47 (mj_ev_mono _) [] rfl rfl rfl (by decide) rfl rfl rfl ?_
  refine c_152 hP hS1.cb.ct hS1.cb.cw ?_
  refine q_47 (mj_ev_mono _) [_] rfl rfl rfl (by decide) rfl rfl rfl ?_
  refine c_96 hP hS1 hT1 (fun I2 e2 hS2 hR2 => ?_)
  have h2 := hR2.2.2 a ha
  refine q_5 rfl ?_
  refine q_33 rfl (by decide) (hP _ _ _ rfl) ?_
  refine q_33 rfl (by decide) (hP _ _ _ rfl) ?_
  refine q_3 rfl ?_
  first | refine q_38E _ rfl (by decide) rfl (by show _ < 10; omega) (by decide) (h2) ?_ | refine q_38 _ rfl (by decide) rfl (by show _ < 10; omega) (by decide) ?_
  refine q_26 ?_
  exact k.fm (cs := [13, 15, 49, 56, 57, 61, 62, 63, 64]) (fs := [(48, 4), (55, 1), (60, 1), (60, 2)]) ((e1.to rfl rfl).tr (e2.to rfl rfl)) hS2 rfl rfl
end C
