/-! the class keeps an image, and restores it -/
theorem Eqf.se {F : Nat → Nat → Bool} {I I' : mj_I} (h : Eqf F I I') {k : Nat} {f : Nat → Int32} (hk : ∀ j, F k j = true) : Eqf F I (mj_seI I' k f) := by
  intro c j q
  have nc : c ≠ k := fun z => by
    subst z
    rw [hk] at q
    cases q
  exact (congrFun (if_neg nc) j).trans (h c j q)
theorem seI_in {I : mj_I} {x y N j : Nat} (hj : j < N) : mj_seI I y (va_cpy (I x) (I y) 0 0 N) y j = I x j := by
  have : mj_seI I y (va_cpy (I x) (I y) 0 0 N) y = va_cpy (I x) (I y) 0 0 N := if_pos rfl
  rw [this, pk_cpy_in (by omega) (by omega)]
  congr 1
  omega
theorem seI_c {I : mj_I} {y c : Nat} {f : Nat → Int32} (h : c ≠ y) : mj_seI I y f c = I c := if_neg h
theorem CI.cp {n b s x y z r u v o b' s' x' y' z' r' u' v' o' : Nat} {im : IM} {I I' : mj_I} (h : CI n b s x y z r u v o im I) (e1 : I' b' 1 = I b 1) (e2 : I' b' 2 = I b 2) (e3 : I' b' 3 = I b 3) (es : I' s' 0 = I s 0) (ex : ∀ p, p < 10 → I' x' p = I x p) (ey : ∀ p, p < 10 → I' y' p = I y p) (ez : ∀ p, p < 10 → I' z' p = I z p) (er : ∀ p, p < 440 → I' r' p = I r p) (eu : ∀ p, p < 8 → I' u' p = I u p) (ev : ∀ p, p < 8 → I' v' p = I v p) (eo : ∀ p, p < 8 → I' o' p = I o p) : CI n b' s' x' y' z' r' u' v' o' im I' := by
  obtain ⟨h1, ⟨w1, w2, w3, w4, w5⟩, ⟨f0, h3, h4, h5⟩, h6, h7, h8, h9, h10⟩ := h
  exact ⟨es.trans h1, ⟨w1, fun p hp => (ex p hp).trans (w2 p hp), fun p hp => (ey p hp).trans (w3 p hp), fun p hp => (ez p hp).trans (w4 p hp), w5⟩, ⟨f0, h3, e3.trans h4, fun i ro hi => (h5 i ro hi).fr (fun j j1 j2 => er j (by omega))⟩, e1.trans h6, h7, e2.trans h8, h9, fun i e he => by
    have hi : i < im.2.2.length := (List.getElem?_eq_some_iff.mp he).1
    rw [eu i (by omega), ev i (by omega), eo i (by omega)]
    exact h10 i e he⟩
section C
variable {I : mj_I} {L : mj_L} {P : mj_P} {Q : mj_Q} {d n r t a b : Nat} {A : AS} {w : WT} {c h : Nat → Nat} {m : MM}
theorem ci_65 (hP : PS t P) (k : ∀ I', Eqf (frm [41, 42, 43] [(40, 0)]) I I' → I' 40 0 = I 31 0 → (∀ p, p < 10 → I' 41 p = I 32 p) → (∀ p, p < 10 → I' 42 p = I 33 p) → (∀ p, p < 10 → I' 43 p = I 34 p) → Q (.inl none) (107, I', L, P)) : mj_ev (d + 1) 65 [.ref 40, .ref 31] (107, I, L, P) Q := by
  refine ⟨rfl, ?_⟩
  show mj_run (mj_ev d) k65 Q (k65 0) [some (.ref 40), some (.ref 31)] [] (107, I, L, P) 0 0
  refine q_5 rfl ?_
  refine q_5 rfl ?_
  refine q_31 rfl (by decide) ?_
  refine q_34 rfl (by decide) ?_
  refine q_5 rfl ?_
  refine q_33 rfl (by decide) (hP _ _ _ rfl) ?_
  refine q_0 ?_
  refine q_5 rfl ?_
  refine q_33 rfl (by decide) (hP _ _ _ rfl) ?_
  refine q_0 ?_
  refine q_0 ?_
  refine q_54 0 0 10 rfl (by decide) rfl (by decide) rfl rfl rfl (by decide) (by decide) (by decide) (by decide) rfl ?_
  refine q_5 rfl ?_
  refine q_33 rfl (by decide) (hP _ _ _ rfl) ?_
  refine q_0 ?_
  refine q_5 rfl ?_
  refine q_33 rfl (by decide) (hP _ _ _ rfl) ?_
  refine q_0 ?_
  refine q_0 ?_
  refine q_54 0 0 10 rfl (by decide) rfl (by decide) rfl rfl rfl (by decide) (by decide) (by decide) (by decide) rfl ?_
  refine q_5 rfl ?_
  refine q_33 rfl (by decide) (hP _ _ _ rfl) ?_
  refine q_0 ?_
  refine q_5 rfl ?_
  refine q_33 rfl (by decide) (hP _ _ _ rfl) ?_
  refine q_0 ?_
  refine q_0 ?_
  refine q_54 0 0 10 rfl (by decide) rfl (by decide) rfl rfl rfl (by decide) (by decide) (by decide) (by decide) rfl ?_
  refine q_25 ?_
  refine k _ ((((Eqf.rf.up rfl).se (fun _ => rfl)).se (fun _ => rfl)).se (fun _ => rfl)) ?_ (fun p hp => ?_) (fun p hp => ?_) (fun p hp => ?_)
  · rw [seI_c (by decide), seI_c (by decide), seI_c (by decide)]
    exact upI_s
  · rw [seI_c (by decide), seI_c (by decide), seI_in hp, upI_c (by decide)]
  · rw [seI_c (by decide), seI_in hp, seI_c (by decide), upI_c (by decide)]
  · rw [seI_in hp, seI_c (by decide), seI_c (by decide), upI_c (by decide)]
theorem ci_9 {im : IM} (hP : PS t P) (hI : CI n 30 31 32 33 34 35 36 37 38 im I) (k : ∀ I', Eqf (frm [41, 42, 43, 44, 45, 46, 47] [(40, 0), (39, 1), (39, 2), (39, 3)]) I I' → CI n 39 40 41 42 43 44 45 46 47 im I' → Q (.inl none) (107, I', L, P)) : mj_ev (d + 2) 9 [.ref 39, .ref 30] (107, I, L, P) Q := by
  refine ⟨rfl, ?_⟩
  show mj_run (mj_ev (d + 1)) k9 Q (k9 0) [some (.ref 39), some (.ref 30)] [] (107, I, L, P) 0 0
  refine q_5 rfl ?_
  refine q_33 rfl (by decide) (hP _ _ _ rfl) ?_
  refine q_5 rfl ?_
  refine q_33 rfl (by decide) (hP _ _ _ rfl) ?_
  refine q_47 (mj_ev_mono _) [_] rfl rfl rfl (by decide) rfl rfl rfl ?_
  refine ci_65 hP (fun I1 e1 g1 g2 g3 g4 => ?_)
  refine q_5 rfl ?_
  refine q_5 rfl ?_
  refine q_31 rfl (by decide) ?_
  refine q_34 rfl (by decide) ?_
  refine q_5 rfl ?_
  refine q_5 rfl ?_
  refine q_31 rfl (by decide) ?_
  refine q_34 rfl (by decide) ?_
  refine q_5 rfl ?_
  refine q_5 rfl ?_
  refine q_31 rfl (by decide) ?_
  refine q_34 rfl (by decide) ?_
  refine q_5 rfl ?_
  refine q_33 rfl (by decide) (hP _ _ _ rfl) ?_
  refine q_0 ?_
  refine q_5 rfl ?_
  refine q_33 rfl (by decide) (hP _ _ _ rfl) ?_
  refine q_0 ?_
  refine q_0 ?_
  refine q_54 0 0 440 rfl (by decide) rfl (by decide) rfl rfl rfl (by decide) (by decide) (by decide) (by decide) rfl ?_
  refine q_5 rfl ?_
  refine q_33 rfl (by decide) (hP _ _ _ rfl) ?_
  refine q_0 ?_
  refine q_5 rfl ?_
  refine q_33 rfl (by decide) (hP _ _ _ rfl) ?_
  refine q_0 ?_
  refine q_0 ?_
  refine q_54 0 0 8 rfl (by decide) rfl (by decide) rfl rfl rfl (by decide) (by decide) (by decide) (by decide) rfl ?_
  refine q_5 rfl ?_
  refine q_33 rfl (by decide) (hP _ _ _ rfl) ?_
  refine q_0 ?_
  refine q_5 rfl ?_
  refine q_33 rfl (by decide) (hP _ _ _ rfl) ?_
  refine q_0 ?_
  refine q_0 ?_
  refine q_54 0 0 8 rfl (by decide) rfl (by decide) rfl rfl rfl (by decide) (by decide) (by decide) (by decide) rfl ?_
  refine q_5 rfl ?_
  refine q_33 rfl (by decide) (hP _ _ _ rfl) ?_
  refine q_0 ?_
  refine q_5 rfl ?_
  refine q_33 rfl (by decide) (hP _ _ _ rfl) ?_
  refine q_0 ?_
  refine q_0 ?_
  refine q_54 0 0 8 rfl (by decide) rfl (by decide) rfl rfl rfl (by decide) (by decide) (by decide) (by decide) rfl ?_
  refine q_25 ?_
  refine k _ ((((((((e1.to rfl rfl).up rfl).up rfl).up rfl).se (fun _ => rfl)).se (fun _ => rfl)).se (fun _ => rfl)).se (fun _ => rfl)) (hI.cp ?_ ?_ ?_ ?_ (fun p hp => ?_) (fun p hp => ?_) (fun p hp => ?_) (fun p hp => ?_) (fun p hp => ?_) (fun p hp => ?_) (fun p hp => ?_))
  · rw [seI_c (by decide), seI_c (by decide), seI_c (by decide), seI_c (by decide), upI_j (by decide), upI_j (by decide), upI_s]
    exact e1 30 1 rfl
  · rw [seI_c (by decide), seI_c (by decide), seI_c (by decide), seI_c (by decide), upI_j (by decide), upI_s, upI_c (by decide)]
    exact e1 30 2 rfl
  · rw [seI_c (by decide), seI_c (by decide), seI_c (by decide), seI_c (by decide), upI_s, upI_c (by decide), upI_c (by decide)]
    exact e1 30 3 rfl
  · rw [seI_c (by decide), seI_c (by decide), seI_c (by decide), seI_c (by decide), upI_c (by decide), upI_c (by decide), upI_c (by decide)]
    exact g1
  · rw [seI_c (by decide), seI_c (by decide), seI_c (by decide), seI_c (by decide), upI_c (by decide), upI_c (by decide), upI_c (by decide)]
    exact g2 p hp
  · rw [seI_c (by decide), seI_c (by decide), seI_c (by decide), seI_c (by decide), upI_c (by decide), upI_c (by decide), upI_c (by decide)]
    exact g3 p hp
  · rw [seI_c (by decide), seI_c (by decide), seI_c (by decide), seI_c (by decide), upI_c (by decide), upI_c (by decide), upI_c (by decide)]
    exact g4 p hp
  · rw [seI_c (by decide), seI_c (by decide), seI_c (by decide), seI_in hp, upI_c (by decide), upI_c (by decide), upI_c (by decide)]
    exact e1 35 p rfl
  · rw [seI_c (by decide), seI_c (by decide), seI_in hp, seI_c (by decide), upI_c (by decide), upI_c (by decide), upI_c (by decide)]
    exact e1 36 p rfl
  · rw [seI_c (by decide), seI_in hp, seI_c (by decide), seI_c (by decide), upI_c (by decide), upI_c (by decide), upI_c (by decide)]
    exact e1 37 p rfl
  · rw [seI_in hp, seI_c (by decide), seI_c (by decide), seI_c (by decide), upI_c (by decide), upI_c (by decide), upI_c (by decide)]
    exact e1 38 p rfl
theorem cr_65 (hP : PS t P) (k : ∀ I', Eqf (frm [32, 33, 34] [(31, 0)]) I I' → I' 31 0 = I 40 0 → (∀ p, p < 10 → I' 32 p = I 41 p) → (∀ p, p < 10 → I' 33 p = I 42 p) → (∀ p, p < 10 → I' 34 p = I 43 p) → Q (.inl none) (107, I', L, P)) : mj_ev (d + 1) 65 [.ref 31, .ref 40] (107, I, L, P) Q := by
  refine ⟨rfl, ?_⟩
  show mj_run (mj_ev d) k65 Q (k65 0) [some (.ref 31), some (.ref 40)] [] (107, I, L, P) 0 0
  refine q_5 rfl ?_
  refine q_5 rfl ?_
  refine q_31 rfl (by decide) ?_
  refine q_34 rfl (by decide) ?_
  refine q_5 rfl ?_
  refine q_33 rfl (by decide) (hP _ _ _ rfl) ?_
  refine q_0 ?_
  refine q_5 rfl ?_
  refine q_33 rfl (by decide) (hP _ _ _ rfl) ?_
  refine q_0 ?_
  refine q_0 ?_
  refine q_54 0 0 10 rfl (by decide) rfl (by decide) rfl rfl rfl (by decide) (by decide) (by decide) (by decide) rfl ?_
  refine q_5 rfl ?_
  refine q_33 rfl (by decide) (hP _ _ _ rfl) ?_
  refine q_0 ?_
  refine q_5 rfl ?_
  refine q_33 rfl (by decide) (hP _ _ _ rfl) ?_
  refine q_0 ?_
  refine q_0 ?_
  refine q_54 0 0 10 rfl (by decide) rfl (by decide) rfl rfl rfl (by decide) (by decide) (by decide) (by decide) rfl ?_
  refine q_5 rfl ?_
  refine q_33 rfl (by decide) (hP _ _ _ rfl) ?_
  refine q_0 ?_
  refine q_5 rfl ?_
  refine q_33 rfl (by decide) (hP _ _ _ rfl) ?_
  refine q_0 ?_
  refine q_0 ?_
  refine q_54 0 0 10 rfl (by decide) rfl (by decide) rfl rfl rfl (by decide) (by decide) (by decide) (by decide) rfl ?_
  refine q_25 ?_
  refine k _ ((((Eqf.rf.up rfl).se (fun _ => rfl)).se (fun _ => rfl)).se (fun _ => rfl)) ?_ (fun p hp => ?_) (fun p hp => ?_) (fun p hp => ?_)
  · rw [seI_c (by decide), seI_c (by decide), seI_c (by decide)]
    exact upI_s
  · rw [seI_c (by decide), seI_c (by decide), seI_in hp, upI_c (by decide)]
  · rw [seI_c (by decide), seI_in hp, seI_c (by decide), upI_c (by decide)]
  · rw [seI_in hp, seI_c (by decide), seI_c (by decide), upI_c (by decide)]
theorem cr_9 {im : IM} (hP : PS t P) (hI : CI n 39 40 41 42 43 44 45 46 47 im I) (k : ∀ I', Eqf (frm [32, 33, 34, 35, 36, 37, 38] [(31, 0), (30, 1), (30, 2), (30, 3)]) I I' → CI n 30 31 32 33 34 35 36 37 38 im I' → Q (.inl none) (107, I', L, P)) : mj_ev (d + 2) 9 [.ref 30, .ref 39] (107, I, L, P) Q := by
  refine ⟨rfl, ?_⟩
  show mj_run (mj_ev (d + 1)) k9 Q (k9 0) [some (.ref 30), some (.ref 39)] [] (107, I, L, P) 0 0
  refine q_5 rfl ?_
  refine q_33 rfl (by decide) (hP _ _ _ rfl) ?_
  refine q_5 rfl ?_
  refine q_33 rfl (by decide) (hP _ _ _ rfl) ?_
  refine q_47 (mj_ev_mono _) [_] rfl rfl rfl (by decide) rfl rfl rfl ?_
  refine cr_65 hP (fun I1 e1 g1 g2 g3 g4 => ?_)
  refine q_5 rfl ?_
  refine q_5 rfl ?_
  refine q_31 rfl (by decide) ?_
  refine q_34 rfl (by decide) ?_
  refine q_5 rfl ?_
  refine q_5 rfl ?_
  refine q_31 rfl (by decide) ?_
  refine q_34 rfl (by decide) ?_
  refine q_5 rfl ?_
  refine q_5 rfl ?_
  refine q_31 rfl (by decide) ?_
  refine q_34 rfl (by decide) ?_
  refine q_5 rfl ?_
  refine q_33 rfl (by decide) (hP _ _ _ rfl) ?_
  refine q_0 ?_
  refine q_5 rfl ?_
  refine q_33 rfl (by decide) (hP _ _ _ rfl) ?_
  refine q_0 ?_
  refine q_0 ?_
  refine q_54 0 0 440 rfl (by decide) rfl (by decide) rfl rfl rfl (by decide) (by decide) (by decide) (by decide) rfl ?_
  refine q_5 rfl ?_
  refine q_33 rfl (by decide) (hP _ _ _ rfl) ?_
  refine q_0 ?_
  refine q_5 rfl ?_
  refine q_33 rfl (by decide) (hP _ _ _ rfl) ?_
  refine q_0 ?_
  refine q_0 ?_
  refine q_54 0 0 8 rfl (by decide) rfl (by decide) rfl rfl rfl (by decide) (by decide) (by decide) (by decide) rfl ?_
  refine q_5 rfl ?_
  refine q_33 rfl (by decide) (hP _ _ _ rfl) ?_
  refine q_0 ?_
  refine q_5 rfl ?_
  refine q_33 rfl (by decide) (hP _ _ _ rfl) ?_
  refine q_0 ?_
  refine q_0 ?_
  refine q_54 0 0 8 rfl (by decide) rfl (by decide) rfl rfl rfl (by decide) (by decide) (by decide) (by decide) rfl ?_
  refine q_5 rfl ?_
  refine q_33 rfl (by decide) (hP _ _ _ rfl) ?_
  refine q_0 ?_
  refine q_5 rfl ?_
  refine q_33 rfl (by decide) (hP _ _ _ rfl) ?_
  refine q_0 ?_
  refine q_0 ?_
  refine q_54 0 0 8 rfl (by decide) rfl (by decide) rfl rfl rfl (by decide) (by decide) (by decide) (by decide) rfl ?_
  refine q_25 ?_
  refine k _ ((((((((e1.to rfl rfl).up rfl).up rfl).up rfl).se (fun _ => rfl)).se (fun _ => rfl)).se (fun _ => rfl)).se (fun _ => rfl)) (hI.cp ?_ ?_ ?_ ?_ (fun p hp => ?_) (fun p hp => ?_) (fun p hp => ?_) (fun p hp => ?_) (fun p hp => ?_) (fun p hp => ?_) (fun p hp => ?_))
  · rw [seI_c (by decide), seI_c (by decide), seI_c (by decide), seI_c (by decide), upI_j (by decide), upI_j (by decide), upI_s]
    exact e1 39 1 rfl
  · rw [seI_c (by decide), seI_c (by decide), seI_c (by decide), seI_c (by decide), upI_j (by decide), upI_s, upI_c (by decide)]
    exact e1 39 2 rfl
  · rw [seI_c (by decide), seI_c (by decide), seI_c (by decide), seI_c (by decide), upI_s, upI_c (by decide), upI_c (by decide)]
    exact e1 39 3 rfl
  · rw [seI_c (by decide), seI_c (by decide), seI_c (by decide), seI_c (by decide), upI_c (by decide), upI_c (by decide), upI_c (by decide)]
    exact g1
  · rw [seI_c (by decide), seI_c (by decide), seI_c (by decide), seI_c (by decide), upI_c (by decide), upI_c (by decide), upI_c (by decide)]
    exact g2 p hp
  · rw [seI_c (by decide), seI_c (by decide), seI_c (by decide), seI_c (by decide), upI_c (by decide), upI_c (by decide), upI_c (by decide)]
    exact g3 p hp
  · rw [seI_c (by decide), seI_c (by decide), seI_c (by decide), seI_c (by decide), upI_c (by decide), upI_c (by decide), upI_c (by decide)]
    exact g4 p hp
  · rw [seI_c (by decide), seI_c (by decide), seI_c (by decide), seI_in hp, upI_c (by decide), upI_c (by decide), upI_c (by decide)]
    exact e1 44 p rfl
  · rw [seI_c (by decide), seI_c (by decide), seI_in hp, seI_c (by decide), upI_c (by decide), upI_c (by decide), upI_c (by decide)]
    exact e1 45 p rfl
  · rw [seI_c (by decide), seI_in hp, seI_c (by decide), seI_c (by decide), upI_c (by decide), upI_c (by decide), upI_c (by decide)]
    exact e1 46 p rfl
  · rw [seI_in hp, seI_c (by decide), seI_c (by decide), seI_c (by decide), upI_c (by decide), upI_c (by decide), upI_c (by decide)]
    exact e1 47 p rfl
theorem c_147 (hP : PS t P) (hS : CS A I) (k : kC Q I L P A.image (.inl none)) : mj_ev (d + 12) 147 [.ref 0] (107, I, L, P) Q := by
  refine ⟨rfl, ?_⟩
  show mj_run (mj_ev (d + 11)) k147 Q (k147 0) [some (.ref 0)] [] (107, I, L, P) 0 0
  obtain ⟨hB, hO, hK, hU, hZ, hD⟩ := hS
  obtain ⟨h1, h2, h3, h4, h5, h6, h7, h8, h9⟩ := hB
  refine q_5 rfl ?_
  refine q_33 rfl (by decide) (hP _ _ _ rfl) ?_
  refine q_5 rfl ?_
  refine q_33 rfl (by decide) (hP _ _ _ rfl) ?_
  refine q_47 (mj_ev_mono _) [_] rfl rfl rfl (by decide) rfl rfl rfl ?_
  refine ci_9 hP h2 (fun I1 e1 g1 => ?_)
  refine q_5 rfl ?_
  refine q_0 ?_
  refine q_35 rfl (by decide) (by first | exact Or.inl rfl | exact Or.inr rfl | assumption) ?_
  refine q_25 ?_
  have E : Eqf (frm [41, 42, 43, 44, 45, 46, 47] [(40, 0), (39, 1), (39, 2), (39, 3), (0, 9)]) I (mj_upI I1 0 9 (nI 1)) := (e1.to rfl rfl).up rfl
  refine k _ L ⟨⟨h1.fr E ⟨rfl, rfl, rfl, rfl, rfl, rfl⟩ (fun _ => rfl) (fun _ _ => ⟨rfl, rfl, rfl, rfl⟩), h2.fr (fun j _ => E 30 j rfl) (E 31 0 rfl) (funext fun j => E 32 j rfl) (funext fun j => E 33 j rfl) (funext fun j => E 34 j rfl) (funext fun j => E 35 j rfl) (funext fun j => E 36 j rfl) (funext fun j => E 37 j rfl) (funext fun j => E 38 j rfl), ⟨upI_s, g1.fr (fun j _ => rfl) rfl rfl rfl rfl rfl rfl rfl rfl⟩, (E 0 1 rfl).trans h4, h5, fun j hj => ⟨(E 1 j rfl).trans (h6 j hj).1, (h6 j hj).2⟩, (E 0 2 rfl).trans h7, h8, fun j hj => (E 2 j rfl).trans (h9 j hj)⟩, hO.fr (E 48 4 rfl) (funext fun j => E 49 j rfl), hK.fr (E 51 4 rfl) (funext fun j => E 52 j rfl), hU.fr (E 55 1 rfl) (funext fun j => E 56 j rfl) (funext fun j => E 57 j rfl) (fun k h1 h8 hk => ⟨k, h1, h8, (E 48 4 rfl).trans hk⟩), hZ.fr (E 60 1 rfl) (E 60 2 rfl) (funext fun j => E 62 j rfl) (funext fun j => E 63 j rfl), hD.fr (fun j => E 65 j rfl) (funext fun j => E 66 j rfl)⟩ (fun c j h73 => E c j (frm_hi h73 rfl rfl)) (fun _ _ _ => rfl)
theorem c_148 {i : IM} (hP : PS t P) (hS : CS A I) (hk : A.kp = some i) (k : kC Q I L P (A.si i) (.inl (some (.int (nI 1))))) : mj_ev (d + 12) 148 [.ref 0] (107, I, L, P) Q := by
  refine ⟨rfl, ?_⟩
  have h3 := hS.cb.2.2.1
  rw [hk] at h3
  obtain ⟨h39, hi⟩ : I 0 9 = nI 1 ∧ CI A.w.n 39 40 41 42 43 44 45 46 47 i I := h3
  show mj_run (mj_ev (d + 11)) k148 Q (k148 0) [some (.ref 0)] [] (107, I, L, P) 0 0
  refine q_5 rfl ?_
  first | refine q_31E rfl (by decide) h39 ?_ | refine q_31 rfl (by decide) ?_
  first | refine q_neN0 (by omega) (fun hh => ?_) (fun hh => absurd hh (by omega)) | refine q_neI0 (fun hh => ?_) (fun hh => absurd (by omega) hh)
  refine q_5 rfl ?_
  refine q_33 rfl (by decide) (hP _ _ _ rfl) ?_
  refine q_5 rfl ?_
  refine q_33 rfl (by decide) (hP _ _ _ rfl) ?_
  refine q_47 (mj_ev_mono _) [_] rfl rfl rfl (by decide) rfl rfl rfl ?_
  refine cr_9 hP hi (fun I1 e1 g1 => ?_)
  refine q_5 rfl ?_
  refine q_47 (mj_ev_mono _) [] rfl rfl rfl (by decide) rfl rfl rfl ?_
  refine c_157 hP ?_
  refine q_0 ?_
  refine q_27 (by first | exact Or.inl rfl | exact Or.inr rfl | assumption | (split <;> first | exact Or.inl rfl | exact Or.inr rfl)) ?_
  have E : Eqf (frm [32, 33, 34, 35, 36, 37, 38] [(30, 1), (30, 2), (30, 3), (31, 0), (48, 4), (51, 4), (55, 1), (60, 1), (65, 0)]) I (uS I1) := (e1.to rfl rfl).tr (uS_f.to rfl rfl)
  exact k _ L (CS.clr (hS.cb.si E (g1.fr (fun j hj => (by rcases hj with rfl | rfl | rfl <;> rfl)) rfl rfl rfl rfl rfl rfl rfl rfl)) rfl rfl rfl rfl rfl) (fun c j h73 => E c j (frm_hi h73 rfl rfl)) (fun _ _ _ => rfl)
theorem c_148F (hP : PS t P) (hS : CS A I) (hk : A.kp = none) (k : kC Q I L P A (.inl (some (.int (nI 0))))) : mj_ev (d + 12) 148 [.ref 0] (107, I, L, P) Q := by
  refine ⟨rfl, ?_⟩
  have h3 := hS.cb.2.2.1
  rw [hk] at h3
  have h39 : I 0 9 = nI 0 := h3
  show mj_run (mj_ev (d + 11)) k148 Q (k148 0) [some (.ref 0)] [] (107, I, L, P) 0 0
  refine q_5 rfl ?_
  first | refine q_31E rfl (by decide) h39 ?_ | refine q_31 rfl (by decide) ?_
  first | refine q_neN0 (by omega) (fun hh => absurd hh (by omega)) (fun hh => ?_) | refine q_neI0 (fun hh => absurd hh (by omega)) (fun hh => ?_)
  refine q_0 ?_
  refine q_27 (by first | exact Or.inl rfl | exact Or.inr rfl | assumption | (split <;> first | exact Or.inl rfl | exact Or.inr rfl)) ?_
  exact k.same hS rfl
theorem c_104 (hP : PS t P) (hS : CS A I) (k : kC Q I L P A (.inl (some (.int (mI A.fp))))) : mj_ev (d + 12) 104 [.ref 0] (107, I, L, P) Q := by
  refine ⟨rfl, ?_⟩
  have h3 : I 0 2 = mI A.fp := hS.cb.2.2.2.2.2.2.1
  show mj_run (mj_ev (d + 11)) k104 Q (k104 0) [some (.ref 0)] [] (107, I, L, P) 0 0
  refine q_5 rfl ?_
  first | refine q_31E rfl (by decide) h3 ?_ | refine q_31 rfl (by decide) ?_
  refine q_26 ?_
  exact k.same hS rfl
end C
