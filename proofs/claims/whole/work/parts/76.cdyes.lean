/-! the class: whose sock was dyed, the next fair that tells -/
/-- the unlike rows behind a FAIR -/
def TD (f : Nat) (D : List Nat) (I : mj_I) (L : mj_L) : Prop := I 66 (f + 1) = nI D.length ∧ D.length ≤ 90 ∧ ∀ i v, D[i]? = some v → L 59 (90 * f + i) = lN v ∧ v < 2 ^ 60
/-- what is SEEN -/
def SB (n : Nat) (se : SE) (I : mj_I) : Prop := I 30 2 = nI se.length ∧ se.length ≤ 8 ∧ ∀ (i : Nat) (e : Nat × Nat × Option Nat), se[i]? = some e → I 36 i = nI e.1 ∧ I 37 i = nI e.2.1 ∧ I 38 i = mI e.2.2 ∧ e.1 < n ∧ 1 ≤ e.2.1 ∧ e.2.1 ≤ 20 ∧ (∀ q, e.2.2 = some q → q < n)
theorem CB.sb {A : AS} {I : mj_I} (h : CB A I) : SB A.w.n A.se I := h.2.1.2.2.2.2.2
theorem SB.fr {n : Nat} {se : SE} {I I' : mj_I} (h : SB n se I) (e2 : I' 30 2 = I 30 2) (e6 : I' 36 = I 36) (e7 : I' 37 = I 37) (e8 : I' 38 = I 38) : SB n se I' := by
  unfold SB
  rw [e2, e6, e7, e8]
  exact h
theorem sok_iff {w : WT} {c : Nat → Nat} {s : HM} {se : SE} : sok w c s se = true ↔ ∀ (i : Nat) (e : Nat × Nat × Option Nat), se[i]? = some e → (many w c s e.2.1).2 e.1 = e.2.2 := by
  unfold sok
  rw [List.all_eq_true]
  constructor
  · intro h i e he
    exact of_decide_eq_true (h e (List.mem_of_getElem? he))
  · intro h e he
    obtain ⟨i, hi⟩ := List.mem_iff_getElem?.mp he
    exact decide_eq_true (h i e hi)
section C
variable {I : mj_I} {L : mj_L} {P : mj_P} {Q : mj_Q} {d n r t a b : Nat} {A : AS} {w : WT} {c h c' h' : Nat → Nat} {m : MM} {al : Nat → Nat → Int32}
theorem da_13 {se : SE} (hP : PS t P) (hn10 : w.n ≤ 10) (hsb : SB w.n se I) (hK : ∀ j, j ≤ 8 → ∀ p, p < w.n → I 52 (10 * j + p) = mI ((many w c (h, m) j).2 p)) (hg : gm w.n m) (h9 : ∀ p, p < w.n → h p < 10) (k : Q (.inl (some (.int (nI (if sok w c (h, m) se then 1 else 0))))) (107, I, L, P)) : mj_ev (d + 2) 13 [.ref 30, .ref 51] (107, I, L, P) Q := by
  refine ⟨rfl, ?_⟩
  obtain ⟨h2, h8, hse⟩ := hsb
  have L2 : ∀ i, i ≤ se.length → (∀ (j : Nat) (e : Nat × Nat × Option Nat), j < i → se[j]? = some e → (many w c (h, m) e.2.1).2 e.1 = e.2.2) → mj_run (mj_ev (d + 1)) k13 Q (k13 2) [some (.ref 30), some (.ref 51), some (.int (nI i))] [] (107, I, L, P) 0 0 := by
    refine loop_up ?_ (fun i hi ih => ?_)
    · intro hz
      have hs : sok w c (h, m) se = true := sok_iff.mpr (fun i e he => hz i e (List.getElem?_eq_some_iff.mp he).1 he)
      rw [hs, if_pos rfl] at k
      refine q_3 rfl ?_
      refine q_5 rfl ?_
      first | refine q_31E rfl (by decide) h2 ?_ | refine q_31 rfl (by decide) ?_
      refine q_geN (by omega) (by omega) (fun hh => ?_) (fun hh => absurd hh (by omega))
      refine q_0 ?_
      refine q_27 (by first | exact Or.inl rfl | exact Or.inr rfl | assumption | (split <;> first | exact Or.inl rfl | exact Or.inr rfl)) ?_
      exact k
    · intro hz
      have he := List.getElem?_eq_getElem hi
      generalize se[i] = e at he
      obtain ⟨p, f, o⟩ := e
      obtain ⟨g1, g2, g3, g4, g5, g6, g7⟩ := hse i _ he
      have g1' : I 36 i = nI p := g1
      have g2' : I 37 i = nI f := g2
      have g3' : I 38 i = mI o := g3
      have g4' : p < w.n := g4
      have g6' : f ≤ 20 := g6
      have g7' : ∀ q, o = some q → q < 2 ^ 31 := fun q hq => by
        have := g7 q hq
        omega
      have v1 : ∀ q, mB w c h m f p = some q → q < 2 ^ 31 := fun q hq => by
        rw [mB_eq h9 g4'] at hq
        have := (many_gm hg f p g4' q hq).1
        omega
      by_cases heq : (many w c (h, m) f).2 p = o
      · refine q_3 rfl ?_
        refine q_5 rfl ?_
        first | refine q_31E rfl (by decide) h2 ?_ | refine q_31 rfl (by decide) ?_
        refine q_geN (by omega) (by omega) (fun hh => absurd hh (by omega)) (fun hh => ?_)
        refine q_3 rfl ?_
        refine q_0 ?_
        refine q_geN (by omega) (by omega) (fun hh => absurd hh (by omega)) (fun hh => ?_)
        refine q_5 rfl ?_
        refine q_5 rfl ?_
        refine q_33 rfl (by decide) (hP _ _ _ rfl) ?_
        refine q_3 rfl ?_
        first | refine q_38E _ rfl (by decide) rfl (by show _ < 8; omega) (by decide) (g1') ?_ | refine q_38 _ rfl (by decide) rfl (by show _ < 8; omega) (by decide) ?_
        refine q_5 rfl ?_
        refine q_33 rfl (by decide) (hP _ _ _ rfl) ?_
        refine q_3 rfl ?_
        first | refine q_38E _ rfl (by decide) rfl (by show _ < 8; omega) (by decide) (g2') ?_ | refine q_38 _ rfl (by decide) rfl (by show _ < 8; omega) (by decide) ?_
        refine q_47 (mj_ev_mono _) [_, _] rfl rfl rfl (by decide) rfl rfl rfl ?_
        refine ca_16 (v := mB w c h m f p) hP (by omega) (by omega) (fun q => by unfold mB; rw [if_pos q]; exact hK f q p g4') (fun q => by unfold mB; rw [if_neg (by omega)]) ?_
        refine q_5 rfl ?_
        refine q_33 rfl (by decide) (hP _ _ _ rfl) ?_
        refine q_3 rfl ?_
        first | refine q_38E _ rfl (by decide) rfl (by show _ < 8; omega) (by decide) (g3') ?_ | refine q_38 _ rfl (by decide) rfl (by show _ < 8; omega) (by decide) ?_
        refine q_eqI (fun _ => ?_) (fun z => absurd (by rw [mB_eq h9 g4', heq]) z)
        first | refine q_inc rfl rfl rfl ?_ | refine q_9 rfl rfl rfl ?_
        refine q_23 ?_
        refine ih (fun j e hj hje => ?_)
        by_cases ej : j = i
        · subst ej
          rw [he] at hje
          cases hje
          exact heq
        · exact hz j e (by omega) hje
      · have hs : sok w c (h, m) se = false := by
          rw [← Bool.not_eq_true]
          intro q
          exact heq (sok_iff.mp q i _ he)
        rw [hs, if_neg (by decide)] at k
        refine q_3 rfl ?_
        refine q_5 rfl ?_
        first | refine q_31E rfl (by decide) h2 ?_ | refine q_31 rfl (by decide) ?_
        refine q_geN (by omega) (by omega) (fun hh => absurd hh (by omega)) (fun hh => ?_)
        refine q_3 rfl ?_
        refine q_0 ?_
        refine q_geN (by omega) (by omega) (fun hh => absurd hh (by omega)) (fun hh => ?_)
        refine q_5 rfl ?_
        refine q_5 rfl ?_
        refine q_33 rfl (by decide) (hP _ _ _ rfl) ?_
        refine q_3 rfl ?_
        first | refine q_38E _ rfl (by decide) rfl (by show _ < 8; omega) (by decide) (g1') ?_ | refine q_38 _ rfl (by decide) rfl (by show _ < 8; omega) (by decide) ?_
        refine q_5 rfl ?_
        refine q_33 rfl (by decide) (hP _ _ _ rfl) ?_
        refine q_3 rfl ?_
        first | refine q_38E _ rfl (by decide) rfl (by show _ < 8; omega) (by decide) (g2') ?_ | refine q_38 _ rfl (by decide) rfl (by show _ < 8; omega) (by decide) ?_
        refine q_47 (mj_ev_mono _) [_, _] rfl rfl rfl (by decide) rfl rfl rfl ?_
        refine ca_16 (v := mB w c h m f p) hP (by omega) (by omega) (fun q => by unfold mB; rw [if_pos q]; exact hK f q p g4') (fun q => by unfold mB; rw [if_neg (by omega)]) ?_
        refine q_5 rfl ?_
        refine q_33 rfl (by decide) (hP _ _ _ rfl) ?_
        refine q_3 rfl ?_
        first | refine q_38E _ rfl (by decide) rfl (by show _ < 8; omega) (by decide) (g3') ?_ | refine q_38 _ rfl (by decide) rfl (by show _ < 8; omega) (by decide) ?_
        refine q_eqI (fun z => absurd ((mB_eq h9 g4').symm.trans ((mI_inj v1 g7').mp z)) heq) (fun _ => ?_)
        refine q_0 ?_
        refine q_27 (by first | exact Or.inl rfl | exact Or.inr rfl | assumption | (split <;> first | exact Or.inl rfl | exact Or.inr rfl)) ?_
        exact k
  show mj_run (mj_ev (d + 1)) k13 Q (k13 0) [some (.ref 30), some (.ref 51), none] [] (107, I, L, P) 0 0
  refine q_0 ?_
  refine q_6 rfl rfl rfl ?_
  exact L2 0 (by omega) (fun j e hj => absurd hj (by omega))
theorem db_13 {se : SE} (hP : PS t P) (hn10 : w.n ≤ 10) (hsb : SB w.n se I) (hK : ∀ j, j ≤ 8 → ∀ p, p < w.n → I 54 (10 * j + p) = mI ((many w c (h, m) j).2 p)) (hg : gm w.n m) (h9 : ∀ p, p < w.n → h p < 10) (k : Q (.inl (some (.int (nI (if sok w c (h, m) se then 1 else 0))))) (107, I, L, P)) : mj_ev (d + 2) 13 [.ref 30, .ref 53] (107, I, L, P) Q := by
  refine ⟨rfl, ?_⟩
  obtain ⟨h2, h8, hse⟩ := hsb
  have L2 : ∀ i, i ≤ se.length → (∀ (j : Nat) (e : Nat × Nat × Option Nat), j < i → se[j]? = some e → (many w c (h, m) e.2.1).2 e.1 = e.2.2) → mj_run (mj_ev (d + 1)) k13 Q (k13 2) [some (.ref 30), some (.ref 53), some (.int (nI i))] [] (107, I, L, P) 0 0 := by
    refine loop_up ?_ (fun i hi ih => ?_)
    · intro hz
      have hs : sok w c (h, m) se = true := sok_iff.mpr (fun i e he => hz i e (List.getElem?_eq_some_iff.mp he).1 he)
      rw [hs, if_pos rfl] at k
      refine q_3 rfl ?_
      refine q_5 rfl ?_
      first | refine q_31E rfl (by decide) h2 ?_ | refine q_31 rfl (by decide) ?_
      refine q_geN (by omega) (by omega) (fun hh => ?_) (fun hh => absurd hh (by omega))
      refine q_0 ?_
      refine q_27 (by first | exact Or.inl rfl | exact Or.inr rfl | assumption | (split <;> first | exact Or.inl rfl | exact Or.inr rfl)) ?_
      exact k
    · intro hz
      have he := List.getElem?_eq_getElem hi
      generalize se[i] = e at he
      obtain ⟨p, f, o⟩ := e
      obtain ⟨g1, g2, g3, g4, g5, g6, g7⟩ := hse i _ he
      have g1' : I 36 i = nI p := g1
      have g2' : I 37 i = nI f := g2
      have g3' : I 38 i = mI o := g3
      have g4' : p < w.n := g4
      have g6' : f ≤ 20 := g6
      have g7' : ∀ q, o = some q → q < 2 ^ 31 := fun q hq => by
        have := g7 q hq
        omega
      have v1 : ∀ q, mB w c h m f p = some q → q < 2 ^ 31 := fun q hq => by
        rw [mB_eq h9 g4'] at hq
        have := (many_gm hg f p g4' q hq).1
        omega
      by_cases heq : (many w c (h, m) f).2 p = o
      · refine q_3 rfl ?_
        refine q_5 rfl ?_
        first | refine q_31E rfl (by decide) h2 ?_ | refine q_31 rfl (by decide) ?_
        refine q_geN (by omega) (by omega) (fun hh => absurd hh (by omega)) (fun hh => ?_)
        refine q_3 rfl ?_
        refine q_0 ?_
        refine q_geN (by omega) (by omega) (fun hh => absurd hh (by omega)) (fun hh => ?_)
        refine q_5 rfl ?_
        refine q_5 rfl ?_
        refine q_33 rfl (by decide) (hP _ _ _ rfl) ?_
        refine q_3 rfl ?_
        first | refine q_38E _ rfl (by decide) rfl (by show _ < 8; omega) (by decide) (g1') ?_ | refine q_38 _ rfl (by decide) rfl (by show _ < 8; omega) (by decide) ?_
        refine q_5 rfl ?_
        refine q_33 rfl (by decide) (hP _ _ _ rfl) ?_
        refine q_3 rfl ?_
        first | refine q_38E _ rfl (by decide) rfl (by show _ < 8; omega) (by decide) (g2') ?_ | refine q_38 _ rfl (by decide) rfl (by show _ < 8; omega) (by decide) ?_
        refine q_47 (mj_ev_mono _) [_, _] rfl rfl rfl (by decide) rfl rfl rfl ?_
        refine cb_16 (v := mB w c h m f p) hP (by omega) (by omega) (fun q => by unfold mB; rw [if_pos q]; exact hK f q p g4') (fun q => by unfold mB; rw [if_neg (by omega)]) ?_
        refine q_5 rfl ?_
        refine q_33 rfl (by decide) (hP _ _ _ rfl) ?_
        refine q_3 rfl ?_
        first | refine q_38E _ rfl (by decide) rfl (by show _ < 8; omega) (by decide) (g3') ?_ | refine q_38 _ rfl (by decide) rfl (by show _ < 8; omega) (by decide) ?_
        refine q_eqI (fun _ => ?_) (fun z => absurd (by rw [mB_eq h9 g4', heq]) z)
        first | refine q_inc rfl rfl rfl ?_ | refine q_9 rfl rfl rfl ?_
        refine q_23 ?_
        refine ih (fun j e hj hje => ?_)
        by_cases ej : j = i
        · subst ej
          rw [he] at hje
          cases hje
          exact heq
        · exact hz j e (by omega) hje
      · have hs : sok w c (h, m) se = false := by
          rw [← Bool.not_eq_true]
          intro q
          exact heq (sok_iff.mp q i _ he)
        rw [hs, if_neg (by decide)] at k
        refine q_3 rfl ?_
        refine q_5 rfl ?_
        first | refine q_31E rfl (by decide) h2 ?_ | refine q_31 rfl (by decide) ?_
        refine q_geN (by omega) (by omega) (fun hh => absurd hh (by omega)) (fun hh => ?_)
        refine q_3 rfl ?_
        refine q_0 ?_
        refine q_geN (by omega) (by omega) (fun hh => absurd hh (by omega)) (fun hh => ?_)
        refine q_5 rfl ?_
        refine q_5 rfl ?_
        refine q_33 rfl (by decide) (hP _ _ _ rfl) ?_
        refine q_3 rfl ?_
        first | refine q_38E _ rfl (by decide) rfl (by show _ < 8; omega) (by decide) (g1') ?_ | refine q_38 _ rfl (by decide) rfl (by show _ < 8; omega) (by decide) ?_
        refine q_5 rfl ?_
        refine q_33 rfl (by decide) (hP _ _ _ rfl) ?_
        refine q_3 rfl ?_
        first | refine q_38E _ rfl (by decide) rfl (by show _ < 8; omega) (by decide) (g2') ?_ | refine q_38 _ rfl (by decide) rfl (by show _ < 8; omega) (by decide) ?_
        refine q_47 (mj_ev_mono _) [_, _] rfl rfl rfl (by decide) rfl rfl rfl ?_
        refine cb_16 (v := mB w c h m f p) hP (by omega) (by omega) (fun q => by unfold mB; rw [if_pos q]; exact hK f q p g4') (fun q => by unfold mB; rw [if_neg (by omega)]) ?_
        refine q_5 rfl ?_
        refine q_33 rfl (by decide) (hP _ _ _ rfl) ?_
        refine q_3 rfl ?_
        first | refine q_38E _ rfl (by decide) rfl (by show _ < 8; omega) (by decide) (g3') ?_ | refine q_38 _ rfl (by decide) rfl (by show _ < 8; omega) (by decide) ?_
        refine q_eqI (fun z => absurd ((mB_eq h9 g4').symm.trans ((mI_inj v1 g7').mp z)) heq) (fun _ => ?_)
        refine q_0 ?_
        refine q_27 (by first | exact Or.inl rfl | exact Or.inr rfl | assumption | (split <;> first | exact Or.inl rfl | exact Or.inr rfl)) ?_
        exact k
  show mj_run (mj_ev (d + 1)) k13 Q (k13 0) [some (.ref 30), some (.ref 53), none] [] (107, I, L, P) 0 0
  refine q_0 ?_
  refine q_6 rfl rfl rfl ?_
  exact L2 0 (by omega) (fun j e hj => absurd hj (by omega))
theorem c_28 {f : Nat} {rr : Nat} {D : List Nat} (hP : PS t P) (hf : f < 8) (hD : TD f D I L) (h90 : D.length < 90) (hr : rr < 2 ^ 60) (k : ∀ I' L', Eqf (frm [66] []) I I' → EqL (frm [59] []) L L' → (∀ j, j ≠ f + 1 → I' 66 j = I 66 j) → (∀ j, j < 90 * f ∨ 90 * f + 90 ≤ j → L' 59 j = L 59 j) → TD f (ad D rr) I' L' → Q (.inl none) (107, I', L', P)) : mj_ev (d + 1) 28 [.ref 65, .int (nI (f + 1)), .long (lN rr)] (107, I, L, P) Q := by
  refine ⟨rfl, ?_⟩
  obtain ⟨h1, h2, h3⟩ := hD
  have L23 : ∀ i, i ≤ D.length → (∀ j v, j < i → D[j]? = some v → v ≠ rr) → mj_run (mj_ev d) k28 Q (k28 23) [some (.ref 65), some (.int (nI (f + 1))), some (.long (lN rr)), none, some (.int (nI (90 * f))), some (.int (nI (90 * f + D.length))), some (.int (nI (90 * f + i)))] [] (107, I, L, P) 0 0 := by
    refine loop_up ?_ (fun i hi ih => ?_)
    · intro hz
      have hc : ¬ D.contains rr = true := fun q => by
        obtain ⟨j, hj⟩ := List.mem_iff_getElem?.mp (List.contains_iff_mem.mp q)
        exact hz j rr (List.getElem?_eq_some_iff.mp hj).1 hj rfl
      have ea : ad D rr = D ++ [rr] := if_neg hc
      rw [ea] at k
      refine q_3 rfl ?_
      refine q_3 rfl ?_
      refine q_geN (by omega) (by omega) (fun hh => ?_) (fun hh => absurd hh (by omega))
      refine q_3 rfl ?_
      refine q_5 rfl ?_
      refine q_33 rfl (by decide) (hP _ _ _ rfl) ?_
      refine q_46 (by decide) (by decide) (by decide) ?_
      refine q_geN (by omega) (by decide) (fun z => absurd (show 1024 ≤ 90 * f + D.length from z) (by omega)) (fun _ => ?_)
      refine q_5 rfl ?_
      refine q_33 rfl (by decide) (hP _ _ _ rfl) ?_
      refine q_3 rfl ?_
      refine q_4 rfl ?_
      refine q_43 _ rfl (by decide) rfl (by show _ < 1024; omega) (by decide) ?_
      refine q_5 rfl ?_
      refine q_33 rfl (by decide) (hP _ _ _ rfl) ?_
      refine q_3 rfl ?_
      refine q_20 rfl rfl ?_
      first | refine q_38E _ rfl (by decide) rfl (by show _ < 9; omega) (by decide) (h1) ?_ | refine q_38 _ rfl (by decide) rfl (by show _ < 9; omega) (by decide) ?_
      refine q_0 ?_
      first | refine q_add ?_ | refine q_11 rfl ?_
      refine q_42 _ rfl (by decide) rfl (by show _ < 9; omega) (by decide) ?_
      refine q_25 ?_
      refine k _ _ (Eqf.rf.up rfl) (EqL.rf.up rfl) (fun j hj => upI_j hj) (fun j hj => upL_j (by omega)) ⟨?_, ?_, fun i v hv => ?_⟩
      · rw [upI_s, List.length_append]
        rfl
      · rw [List.length_append]
        show D.length + 1 ≤ 90
        omega
      · by_cases e : i = D.length
        · subst e
          rw [List.getElem?_append_right (Nat.le_refl _), Nat.sub_self] at hv
          cases hv
          exact ⟨upL_s, hr⟩
        · have hlt : i < D.length := by
            have := (List.getElem?_eq_some_iff.mp hv).1
            rw [List.length_append] at this
            have q : i < D.length + 1 := this
            omega
          rw [List.getElem?_append_left hlt] at hv
          rw [upL_j (by omega)]
          exact h3 i v hv
    · intro hz
      have he := List.getElem?_eq_getElem hi
      generalize D[i] = v at he
      obtain ⟨u1, u2⟩ := h3 i v he
      by_cases heq : v = rr
      · subst heq
        have ea : ad D v = D := if_pos (List.contains_iff_mem.mpr (List.mem_of_getElem? he))
        rw [ea] at k
        refine q_3 rfl ?_
        refine q_3 rfl ?_
        refine q_geN (by omega) (by omega) (fun hh => absurd hh (by omega)) (fun hh => ?_)
        refine q_5 rfl ?_
        refine q_33 rfl (by decide) (hP _ _ _ rfl) ?_
        refine q_3 rfl ?_
        first | refine q_39E _ rfl (by decide) rfl (by show _ < 1024; omega) (by decide) (u1) ?_ | refine q_39 _ rfl (by decide) rfl (by show _ < 1024; omega) (by decide) ?_
        refine q_4 rfl ?_
        refine q_17 ?_
        refine q_neI0 (fun z => absurd ((lg_cmp_eq _ _).mpr rfl) z) (fun _ => ?_)
        refine q_25 ?_
        exact k I L Eqf.rf EqL.rf (fun _ _ => rfl) (fun _ _ => rfl) ⟨h1, h2, h3⟩
      · refine q_3 rfl ?_
        refine q_3 rfl ?_
        refine q_geN (by omega) (by omega) (fun hh => absurd hh (by omega)) (fun hh => ?_)
        refine q_5 rfl ?_
        refine q_33 rfl (by decide) (hP _ _ _ rfl) ?_
        refine q_3 rfl ?_
        first | refine q_39E _ rfl (by decide) rfl (by show _ < 1024; omega) (by decide) (u1) ?_ | refine q_39 _ rfl (by decide) rfl (by show _ < 1024; omega) (by decide) ?_
        refine q_4 rfl ?_
        refine q_17 ?_
        refine q_neI0 (fun _ => ?_) (fun z => absurd (fun q => heq ((pk_lEQ (by omega) (by omega)).mp ((lg_cmp_eq _ _).mp q))) z)
        first | refine q_inc rfl rfl rfl ?_ | refine q_9 rfl rfl rfl ?_
        refine q_23 ?_
        refine ih (fun j x hj hx => ?_)
        by_cases ej : j = i
        · subst ej
          rw [he] at hx
          cases hx
          exact heq
        · exact hz j x (by omega) hx
  show mj_run (mj_ev d) k28 Q (k28 0) [some (.ref 65), some (.int (nI (f + 1))), some (.long (lN rr)), none, none, none, none] [] (107, I, L, P) 0 0
  refine q_3 rfl ?_
  refine q_0 ?_
  first | refine q_sub (by omega) ?_ | refine q_11 rfl ?_
  refine q_0 ?_
  first | refine q_mul ?_ | refine q_11 rfl ?_
  rw [show (f + 1 - 1) * 90 = 90 * f by omega]
  refine q_6 rfl rfl rfl ?_
  refine q_3 rfl ?_
  refine q_5 rfl ?_
  refine q_33 rfl (by decide) (hP _ _ _ rfl) ?_
  refine q_3 rfl ?_
  first | refine q_38E _ rfl (by decide) rfl (by show _ < 9; omega) (by decide) (h1) ?_ | refine q_38 _ rfl (by decide) rfl (by show _ < 9; omega) (by decide) ?_
  first | refine q_add ?_ | refine q_11 rfl ?_
  refine q_6 rfl rfl rfl ?_
  refine q_3 rfl ?_
  refine q_6 rfl rfl rfl ?_
  exact L23 0 (by omega) (fun j v hj => absurd hj (by omega))
theorem TD.fr {f : Nat} {D : List Nat} {I' : mj_I} {L' : mj_L} (hD : TD f D I L) (e1 : I' 66 (f + 1) = I 66 (f + 1)) (e2 : ∀ j, 90 * f ≤ j → j < 90 * f + 90 → L' 59 j = L 59 j) : TD f D I' L' := by
  obtain ⟨h1, h2, h3⟩ := hD
  refine ⟨e1.trans h1, h2, fun i v hv => ?_⟩
  have hlt := (List.getElem?_eq_some_iff.mp hv).1
  rw [e2 _ (by omega) (by omega)]
  exact h3 i v hv
theorem c_27 {g M : Nat} {fst : Option Nat} {Ds : Nat → List Nat} (hP : PS t P) (hn : I 3 0 = nI w.n) (hn10 : w.n ≤ 10) (hK : ∀ j, j ≤ 8 → ∀ p, p < w.n → I 54 (10 * j + p) = mI ((many w c (h, m) j).2 p)) (hg : gm w.n m) (hM : I 65 1 = nI M) (hM9 : M < 90) (hF : I 65 2 = mI fst) (hD : ∀ f, f < 8 → TD f (Ds f) I L ∧ (Ds f).length ≤ M) (k : ∀ I' L', Eqf (frm [66] [(65, 1), (65, 2)]) I I' → EqL (frm [59] []) L L' → I' 65 1 = nI (M + 1) → I' 65 2 = (if M = 0 then nI g else mI fst) → (∀ f, f < 8 → TD f (ad (Ds f) (rc4 w.n (many w c (h, m) (f + 1)).2)) I' L') → Q (.inl none) (107, I', L', P)) : mj_ev (d + 3) 27 [.ref 65, .int (nI g)] (107, I, L, P) Q := by
  refine ⟨rfl, ?_⟩
  have rl : ∀ f, rc4 w.n (many w c (h, m) f).2 < 2 ^ 60 := fun f => Nat.lt_of_lt_of_le (rc4_lt hn10 (fun p hp q hq => by have := (many_gm hg f p hp q hq).1; omega)) (by decide)
  have L24 : ∀ I1, Eqf (frm [] [(65, 1), (65, 2)]) I I1 → I1 65 1 = nI (M + 1) → I1 65 2 = (if M = 0 then nI g else mI fst) → ∀ F, F ≤ 8 → ∀ I' L', Eqf (frm [66] []) I1 I' → EqL (frm [59] []) L L' → (∀ f, f < 8 → f < F → TD f (ad (Ds f) (rc4 w.n (many w c (h, m) (f + 1)).2)) I' L') → (∀ f, f < 8 → F ≤ f → TD f (Ds f) I' L') → mj_run (mj_ev (d + 2)) k27 Q (k27 24) [some (.ref 65), some (.int (nI g)), some (.int (nI (F + 1)))] [] (107, I', L', P) 0 0 := by
    intro I1 e1 f1 f2
    refine loop_up ?_ (fun F hF8 ih => ?_)
    · intro I' L' e' eL z1 z2
      refine q_3 rfl ?_
      refine q_0 ?_
      refine q_gtN (by omega) (by omega) (fun hh => ?_) (fun hh => absurd hh (by omega))
      refine q_25 ?_
      exact k I' L' ((e1.to rfl rfl).tr (e'.to rfl rfl)) eL ((e' 65 1 rfl).trans f1) ((e' 65 2 rfl).trans f2) (fun f hf => z1 f hf hf)
    · intro I' L' e' eL z1 z2
      have hn' : I' 3 0 = nI w.n := (e' 3 0 rfl).trans ((e1 3 0 rfl).trans hn)
      refine q_3 rfl ?_
      refine q_0 ?_
      refine q_gtN (by omega) (by omega) (fun hh => absurd hh (by omega)) (fun hh => ?_)
      refine q_5 rfl ?_
      refine q_3 rfl ?_
      refine q_5 rfl ?_
      refine q_33 rfl (by decide) (hP _ _ _ rfl) ?_
      refine q_3 rfl ?_
      refine q_47 (mj_ev_mono _) [_] rfl rfl rfl (by decide) rfl rfl rfl ?_
      refine cb_19 (w := w) (c := c) (h := h) (m := m) hP hn' hn10 (by omega) (fun p hp => (e' 54 _ rfl).trans ((e1 54 _ rfl).trans (hK (F + 1) (by omega) p hp))) hg ?_
      refine q_47 (mj_ev_mono _) [_, _] rfl rfl rfl (by decide) rfl rfl rfl ?_
      refine c_28 (D := Ds F) hP hF8 (z2 F hF8 (Nat.le_refl _)) (by have := (hD F hF8).2; omega) (rl _) (fun I2 L2 e2 eL2 s1 s2 hT2 => ?_)
      first | refine q_inc rfl rfl rfl ?_ | refine q_9 rfl rfl rfl ?_
      refine q_23 ?_
      refine ih I2 L2 (e'.tr e2) (eL.tr eL2) (fun f hf hfF => ?_) (fun f hf hFf => ?_)
      · by_cases ef : f = F
        · subst ef
          exact hT2
        · exact (z1 f hf (by omega)).fr (s1 _ (by omega)) (fun j j1 j2 => s2 j (by omega))
      · exact (z2 f hf (by omega)).fr (s1 _ (by omega)) (fun j j1 j2 => s2 j (by omega))
  show mj_run (mj_ev (d + 2)) k27 Q (k27 0) [some (.ref 65), some (.int (nI g)), none] [] (107, I, L, P) 0 0
  by_cases hM0 : M = 0
  · have hM' : I 65 1 = nI 0 := by rw [hM, hM0]
    have hM2 : mj_upI I 65 2 (nI g) 65 1 = nI 0 := hM'
    refine q_5 rfl ?_
    first | refine q_31E rfl (by decide) hM' ?_ | refine q_31E rfl (by decide) hM2 ?_ | refine q_31 rfl (by decide) ?_
    first | refine q_neN0 (by omega) (fun hh => absurd hh (by omega)) (fun hh => ?_) | refine q_neI0 (fun hh => absurd hh (by omega)) (fun hh => ?_)
    refine q_5 rfl ?_
    refine q_3 rfl ?_
    refine q_34 rfl (by decide) ?_
    refine q_5 rfl ?_
    refine q_18 rfl ?_
    first | refine q_31E rfl (by decide) hM' ?_ | refine q_31E rfl (by decide) hM2 ?_ | refine q_31 rfl (by decide) ?_
    refine q_0 ?_
    first | refine q_add ?_ | refine q_11 rfl ?_
    refine q_34 rfl (by decide) ?_
    refine q_0 ?_
    refine q_6 rfl rfl rfl ?_
    refine L24 _ ((Eqf.rf.up rfl).up rfl) (by rw [upI_s, hM0]) (by rw [upI_j (by decide), upI_s, if_pos hM0]) 0 (by omega) _ L Eqf.rf EqL.rf (fun f _ hf => absurd hf (by omega)) (fun f hf _ => (hD f hf).1.fr rfl (fun _ _ _ => rfl))
  · refine q_5 rfl ?_
    first | refine q_31E rfl (by decide) hM ?_ | refine q_31 rfl (by decide) ?_
    first | refine q_neN0 (by omega) (fun hh => ?_) (fun hh => absurd hh (by omega)) | refine q_neI0 (fun hh => ?_) (fun hh => absurd (by omega) hh)
    refine q_5 rfl ?_
    refine q_18 rfl ?_
    first | refine q_31E rfl (by decide) hM ?_ | refine q_31 rfl (by decide) ?_
    refine q_0 ?_
    first | refine q_add ?_ | refine q_11 rfl ?_
    refine q_34 rfl (by decide) ?_
    refine q_0 ?_
    refine q_6 rfl rfl rfl ?_
    refine L24 _ (Eqf.rf.up rfl) upI_s (by rw [upI_j (by decide), if_neg hM0]; exact hF) 0 (by omega) _ L Eqf.rf EqL.rf (fun f _ hf => absurd hf (by omega)) (fun f hf _ => (hD f hf).1.fr rfl (fun _ _ _ => rfl))
/-- rows of those who might have been dyed -/
def RR (A : AS) (f a : Nat) : Nat := rc4 A.w.n (many A.w (cdy A.c ((gl (gss A.w A.c (A.h, A.m) A.se) (10 * A.w.n)).getD a 0)) (A.h, A.m) (f + 1)).2
/-- g were looked at -/
def PG (A : AS) (g : Nat) (I : mj_I) (L : mj_L) : Prop := I 65 1 = nI (cntF (gss A.w A.c (A.h, A.m) A.se) g) ∧ I 65 2 = mI (fnd g 0 (gss A.w A.c (A.h, A.m) A.se)) ∧ ∀ f, f < 8 → TD f (nb (RR A f) (cntF (gss A.w A.c (A.h, A.m) A.se) g)) I L
theorem PG.no {g : Nat} (hp : PG A g I L) (h : gss A.w A.c (A.h, A.m) A.se g = false) : PG A (g + 1) I L := by
  have e1 : cntF (gss A.w A.c (A.h, A.m) A.se) (g + 1) = cntF (gss A.w A.c (A.h, A.m) A.se) g := by
    show cntF (gss A.w A.c (A.h, A.m) A.se) g + (if gss A.w A.c (A.h, A.m) A.se g = true then 1 else 0) = _
    rw [h, if_neg (by decide), Nat.add_zero]
  unfold PG
  rw [e1, fnd_succ (Nat.zero_le _), h, if_neg (by decide), Option.or_none]
  exact hp
theorem PG.fr {g : Nat} {I' : mj_I} {L' : mj_L} (hp : PG A g I L) (e1 : I' 65 1 = I 65 1) (e2 : I' 65 2 = I 65 2) (e3 : I' 66 = I 66) (e4 : L' 59 = L 59) : PG A g I' L' := by
  obtain ⟨h1, h2, h3⟩ := hp
  exact ⟨e1.trans h1, e2.trans h2, fun f hf => (h3 f hf).fr (by rw [e3]) (fun j _ _ => by rw [e4])⟩
theorem hs_tr {x y z : Nat} {I' : mj_I} (hR : CW n x y z c h m I) (e1 : I' x = I x) (e2 : I' y = I y) (e3 : I' z = I z) : CW n x y z c h m I' := hR.fr e1 e2 e3
theorem c_26 {one : Nat} (hP : PS t P) (hB : CB A I) (h48 : I 48 4 = nI 8) (hG : GV A.w A.c A.h 8 I) (ho : one < A.w.n) (hp : PG A (10 * one) I L) (k : ∀ I' L', Eqf (frm [13, 15, 49, 54, 66] [(53, 4), (65, 1), (65, 2)]) I I' → EqL (frm [59] []) L L' → GV A.w A.c A.h 8 I' → PG A (10 * (one + 1)) I' L' → Q (.inl none) (107, I', L', P)) : mj_ev (d + 6) 26 [.ref 65, .int (nI one)] (107, I, L, P) Q := by
  refine ⟨rfl, ?_⟩
  have hn10 := hB.n10
  have o1 := hB.cw.col ho
  have c10 := hB.cw.c10 ho
  have hh10 : ∀ p, p < A.w.n → A.h p < 10 := fun p hp => hB.cw.h10 hp
  have tC : ∀ {I' : mj_I}, Eqf (frm [32, 13, 15, 49, 54, 66] [(53, 4), (65, 1), (65, 2)]) I I' → CT A.w I' := fun e => hB.ct.fr e ⟨rfl, rfl, rfl, rfl, rfl, rfl⟩ (fun _ => rfl) (fun _ _ => ⟨rfl, rfl, rfl, rfl⟩)
  have L18 : ∀ X, X ≤ 10 → ∀ I' L' cc, Eqf (frm [32, 13, 15, 49, 54, 66] [(53, 4), (65, 1), (65, 2)]) I I' → EqL (frm [59] []) L L' → (∀ j, j ≠ one → I' 32 j = I 32 j) → CW A.w.n 32 33 34 cc A.h A.m I' → (∀ i, i ≠ one → cc i = A.c i) → GO A.w A.c A.h one 8 8 I' → PG A (10 * one + X) I' L' → mj_run (mj_ev (d + 5)) k26 Q (k26 18) [some (.ref 65), some (.int (nI one)), some (.ref 32), some (.int (nI (A.c one))), some (.int (nI X))] [] (107, I', L', P) 0 0 := by
    refine loop_up ?_ (fun X hX ih => ?_)
    · intro I' L' cc e' eL s32 hR' ag hO hp'
      have b32 : ∀ j, mj_upI I' 32 one (nI (A.c one)) 32 j = I 32 j := fun j => by
        by_cases e : j = one
        · subst e
          rw [upI_s]
          exact o1.symm
        · rw [upI_j e]
          exact s32 j e
      have e3 := Eqf.drop (e'.up (k := 32) (j := one) (v := nI (A.c one)) rfl) b32
      have hR3 : CW A.w.n 32 33 34 A.c A.h A.m (mj_upI I' 32 one (nI (A.c one))) := hB.cw.fr (funext b32) (funext fun j => e3 33 j rfl) (funext fun j => e3 34 j rfl)
      refine q_3 rfl ?_
      refine q_0 ?_
      refine q_geN (by omega) (by omega) (fun hh => ?_) (fun hh => absurd hh (by omega))
      refine q_5 rfl ?_
      refine q_3 rfl ?_
      refine q_3 rfl ?_
      refine q_42 _ rfl (by decide) rfl (by show _ < 10; omega) (by decide) ?_
      refine q_5 rfl ?_
      refine q_33 rfl (by decide) (hP _ _ _ rfl) ?_
      refine q_3 rfl ?_
      refine q_0 ?_
      refine q_47 (mj_ev_mono _) [_, _] rfl rfl rfl (by decide) rfl rfl rfl ?_
      refine c_33r (N := 8) hP (tC (e'.up rfl)) hR3 ho (by omega) (by omega) (by omega) ((e3 48 4 rfl).trans h48) hO (fun I4 e4 hG4 => ?_)
      refine q_25 ?_
      exact k I4 L' (e3.tr (e4.to rfl rfl)) eL hG4 (by rw [show 10 * (one + 1) = 10 * one + 10 by omega]; exact hp'.fr (e4 65 1 rfl) (e4 65 2 rfl) (funext fun j => e4 66 j rfl) rfl)
    · intro I' L' cc e' eL s32 hR' ag hO hp'
      have eg1 : (10 * one + X) / 10 = one := by omega
      have eg2 : (10 * one + X) % 10 = X := by omega
      by_cases hXo : X = A.c one
      · have hno : gss A.w A.c (A.h, A.m) A.se (10 * one + X) = false := by
          unfold gss
          rw [eg1, eg2]
          simp [hXo]
        refine q_3 rfl ?_
        refine q_0 ?_
        refine q_geN (by omega) (by omega) (fun hh => absurd hh (by omega)) (fun hh => ?_)
        refine q_3 rfl ?_
        refine q_3 rfl ?_
        refine q_eqN (by omega) (by omega) (fun hh => ?_) (fun hh => absurd hh (by omega))
        first | refine q_inc rfl rfl rfl ?_ | refine q_9 rfl rfl rfl ?_
        refine q_23 ?_
        exact ih I' L' cc e' eL s32 hR' ag hO (hp'.no hno)
      · have hgs : gss A.w A.c (A.h, A.m) A.se (10 * one + X) = sok A.w (cdy A.c (10 * one + X)) (A.h, A.m) A.se := by
          unfold gss
          rw [eg1, eg2]
          have : ¬ A.c one = X := fun e => hXo e.symm
          simp [this]
        have hR1 : CW A.w.n 32 33 34 (cdy A.c (10 * one + X)) A.h A.m (mj_upI I' 32 one (nI X)) := by
          have q1 := hR'.cs (I' := mj_upI I' 32 one (nI X)) ho hX upI_s (fun p hp => upI_j hp) rfl rfl
          refine q1.cg (fun p hp => ?_) (fun p hp => rfl)
          unfold cdy
          rw [eg1, eg2]
          by_cases e : p = one
          · rw [if_pos e, if_pos e]
          · rw [if_neg e, if_neg e]
            exact (ag p e).symm
        have e2 : Eqf (frm [32, 13, 15, 49, 54, 66] [(53, 4), (65, 1), (65, 2)]) I (mj_upI I' 32 one (nI X)) := e'.up rfl
        have s2 : ∀ j, j ≠ one → mj_upI I' 32 one (nI X) 32 j = I 32 j := fun j e => by
          rw [upI_j e]
          exact s32 j e
        have ag2 : ∀ i, i ≠ one → cdy A.c (10 * one + X) i = A.c i ∧ A.h i = A.h i := fun i e => ⟨by unfold cdy; rw [eg1, if_neg e], rfl⟩
        have mid : ∀ I5, Eqf (frm [13, 15, 49, 54] [(53, 4)]) (mj_upI I' 32 one (nI X)) I5 → GO A.w A.c A.h one 8 8 I5 → Eqf (frm [32, 13, 15, 49, 54, 66] [(53, 4), (65, 1), (65, 2)]) I I5 ∧ (∀ j, j ≠ one → I5 32 j = I 32 j) ∧ CW A.w.n 32 33 34 (cdy A.c (10 * one + X)) A.h A.m I5 ∧ PG A (10 * one + X) I5 L' := fun I5 e5 hO5 => ⟨e2.tr (e5.to rfl rfl), fun j e => (e5 32 j rfl).trans (s2 j e), hR1.fr (funext fun j => e5 32 j rfl) (funext fun j => e5 33 j rfl) (funext fun j => e5 34 j rfl), hp'.fr (e5 65 1 rfl) (e5 65 2 rfl) (funext fun j => e5 66 j rfl) rfl⟩
        have m90 : cntF (gss A.w A.c (A.h, A.m) A.se) (10 * one + X) < 90 ∨ gss A.w A.c (A.h, A.m) A.se (10 * one + X) = false := by
          cases hq : gss A.w A.c (A.h, A.m) A.se (10 * one + X) with
          | false => exact Or.inr rfl
          | true =>
            left
            have q1 := gss_le (w := A.w) (c := A.c) (s := (A.h, A.m)) (se := A.se) (i := A.w.n) (fun p hp => hB.cw.c10 hp)
            have q2 := cntF_mono (gss A.w A.c (A.h, A.m) A.se) (show 10 * one + X + 1 ≤ 10 * A.w.n by omega)
            have q3 : cntF (gss A.w A.c (A.h, A.m) A.se) (10 * one + X + 1) = cntF (gss A.w A.c (A.h, A.m) A.se) (10 * one + X) + (if gss A.w A.c (A.h, A.m) A.se (10 * one + X) = true then 1 else 0) := rfl
            rw [hq, if_pos rfl] at q3
            omega
        have yes : sok A.w (cdy A.c (10 * one + X)) (A.h, A.m) A.se = true → ∀ I5 I6 L6, Eqf (frm [66] [(65, 1), (65, 2)]) I5 I6 → I6 65 1 = nI (cntF (gss A.w A.c (A.h, A.m) A.se) (10 * one + X) + 1) → I6 65 2 = (if cntF (gss A.w A.c (A.h, A.m) A.se) (10 * one + X) = 0 then nI (10 * one + X) else mI (fnd (10 * one + X) 0 (gss A.w A.c (A.h, A.m) A.se))) → (∀ f, f < 8 → TD f (ad (nb (RR A f) (cntF (gss A.w A.c (A.h, A.m) A.se) (10 * one + X))) (rc4 A.w.n (many A.w (cdy A.c (10 * one + X)) (A.h, A.m) (f + 1)).2)) I6 L6) → PG A (10 * one + X + 1) I6 L6 := by
          intro hs I5 I6 L6 e6 g1 g2 g3
          rw [← hgs] at hs
          have e1 : cntF (gss A.w A.c (A.h, A.m) A.se) (10 * one + X + 1) = cntF (gss A.w A.c (A.h, A.m) A.se) (10 * one + X) + 1 := by
            show cntF (gss A.w A.c (A.h, A.m) A.se) (10 * one + X) + (if gss A.w A.c (A.h, A.m) A.se (10 * one + X) = true then 1 else 0) = _
            rw [hs, if_pos rfl]
          unfold PG
          rw [e1, fnd_succ (Nat.zero_le _), hs, if_pos rfl]
          refine ⟨g1, ?_, fun f hf => ?_⟩
          · rw [g2]
            by_cases h0 : cntF (gss A.w A.c (A.h, A.m) A.se) (10 * one + X) = 0
            · rw [if_pos h0, cnt_fnd h0]
              rfl
            · obtain ⟨z, hz⟩ := cnt_fnd2 h0
              rw [if_neg h0, hz]
              rfl
          · have := g3 f hf
            have e9 : RR A f (cntF (gss A.w A.c (A.h, A.m) A.se) (10 * one + X)) = rc4 A.w.n (many A.w (cdy A.c (10 * one + X)) (A.h, A.m) (f + 1)).2 := by
              unfold RR
              rw [gl_at hs (by omega)]
            show TD f (ad (nb (RR A f) (cntF (gss A.w A.c (A.h, A.m) A.se) (10 * one + X))) (RR A f (cntF (gss A.w A.c (A.h, A.m) A.se) (10 * one + X)))) I6 L6
            rw [e9]
            exact this
        cases hs : sok A.w (cdy A.c (10 * one + X)) (A.h, A.m) A.se with
        | false =>
          refine q_3 rfl ?_
          refine q_0 ?_
          refine q_geN (by omega) (by omega) (fun hh => absurd hh (by omega)) (fun hh => ?_)
          refine q_3 rfl ?_
          refine q_3 rfl ?_
          refine q_eqN (by omega) (by omega) (fun hh => absurd hh (by omega)) (fun hh => ?_)
          refine q_5 rfl ?_
          refine q_3 rfl ?_
          refine q_3 rfl ?_
          refine q_42 _ rfl (by decide) rfl (by show _ < 10; omega) (by decide) ?_
          refine q_5 rfl ?_
          refine q_33 rfl (by decide) (hP _ _ _ rfl) ?_
          refine q_3 rfl ?_
          refine q_0 ?_
          refine q_47 (mj_ev_mono _) [_, _] rfl rfl rfl (by decide) rfl rfl rfl ?_
          refine c_33t (N := 8) hP (tC e2) hR1 ho (by omega) (by omega) (by omega) ((e2 48 4 rfl).trans h48) hO ag2 (fun I4 e4 hO4 hG4 => ?_)
          refine q_5 rfl ?_
          refine q_33 rfl (by decide) (hP _ _ _ rfl) ?_
          refine q_47 (mj_ev_mono _) [] rfl rfl rfl (by decide) rfl rfl rfl ?_
          refine cb_15 ?_
          refine q_5 rfl ?_
          refine q_33 rfl (by decide) (hP _ _ _ rfl) ?_
          refine q_0 ?_
          refine q_47 (mj_ev_mono _) [_] rfl rfl rfl (by decide) rfl rfl rfl ?_
          refine cb_21 (w := A.w) (c := cdy A.c (10 * one + X)) (h := A.h) (m := A.m) (N := 8) (k0 := 8) hP (tC ((e2.tr (e4.to rfl rfl)).up rfl)).hn (hR1.fr (I' := mj_upI I4 53 4 (-(nI 1))) (funext fun j => e4 32 j rfl) (funext fun j => e4 33 j rfl) (funext fun j => e4 34 j rfl)) (by omega) (fun j hj x y hx hy hxy => hG4 j hj x y hx hy hxy) (by omega) (by omega) (Or.inl upI_s) (fun I5 k2 g1 g2 g3 e5 j53 hK5 => ?_)
          have k8 : k2 = 8 := g3 (by omega)
          obtain ⟨E5, s5, hR5, hp5⟩ := mid I5 (((e4.to (cs' := [13, 15, 49, 54]) (fs' := [(53, 4)]) rfl rfl).up rfl).tr (e5.to rfl rfl)) (fun j hj x y hx hy hxy hq => (e5 49 _ rfl).trans (hO4 j hj x y hx hy hxy hq))
          refine q_5 rfl ?_
          refine q_33 rfl (by decide) (hP _ _ _ rfl) ?_
          refine q_5 rfl ?_
          refine q_33 rfl (by decide) (hP _ _ _ rfl) ?_
          refine q_47 (mj_ev_mono _) [_] rfl rfl rfl (by decide) rfl rfl rfl ?_
          refine db_13 (w := A.w) (c := cdy A.c (10 * one + X)) (h := A.h) (m := A.m) (se := A.se) hP hn10 (hB.sb.fr (E5 30 2 rfl) (funext fun j => E5 36 j rfl) (funext fun j => E5 37 j rfl) (funext fun j => E5 38 j rfl)) (fun j hj p hp => hK5 j (by omega) p hp) hB.cw.gm hh10 ?_
          rw [hs, if_neg (by decide)]
          first | refine q_eqN0 (by omega) (fun hh => ?_) (fun hh => absurd hh (by omega)) | refine q_eqI0 (fun hh => ?_) (fun hh => absurd (by omega) hh)
          first | refine q_inc rfl rfl rfl ?_ | refine q_9 rfl rfl rfl ?_
          refine q_23 ?_
          exact ih I5 L' _ E5 eL s5 hR5 (fun i e => (ag2 i e).1) (fun j hj x y hx hy hxy hq => (e5 49 _ rfl).trans (hO4 j hj x y hx hy hxy hq)) (hp5.no (by rw [hgs]; exact hs))
        | true =>
          have m9 : cntF (gss A.w A.c (A.h, A.m) A.se) (10 * one + X) < 90 := m90.resolve_right (by rw [hgs, hs]; exact fun q => by cases q)
          refine q_3 rfl ?_
          refine q_0 ?_
          refine q_geN (by omega) (by omega) (fun hh => absurd hh (by omega)) (fun hh => ?_)
          refine q_3 rfl ?_
          refine q_3 rfl ?_
          refine q_eqN (by omega) (by omega) (fun hh => absurd hh (by omega)) (fun hh => ?_)
          refine q_5 rfl ?_
          refine q_3 rfl ?_
          refine q_3 rfl ?_
          refine q_42 _ rfl (by decide) rfl (by show _ < 10; omega) (by decide) ?_
          refine q_5 rfl ?_
          refine q_33 rfl (by decide) (hP _ _ _ rfl) ?_
          refine q_3 rfl ?_
          refine q_0 ?_
          refine q_47 (mj_ev_mono _) [_, _] rfl rfl rfl (by decide) rfl rfl rfl ?_
          refine c_33t (N := 8) hP (tC e2) hR1 ho (by omega) (by omega) (by omega) ((e2 48 4 rfl).trans h48) hO ag2 (fun I4 e4 hO4 hG4 => ?_)
          refine q_5 rfl ?_
          refine q_33 rfl (by decide) (hP _ _ _ rfl) ?_
          refine q_47 (mj_ev_mono _) [] rfl rfl rfl (by decide) rfl rfl rfl ?_
          refine cb_15 ?_
          refine q_5 rfl ?_
          refine q_33 rfl (by decide) (hP _ _ _ rfl) ?_
          refine q_0 ?_
          refine q_47 (mj_ev_mono _) [_] rfl rfl rfl (by decide) rfl rfl rfl ?_
          refine cb_21 (w := A.w) (c := cdy A.c (10 * one + X)) (h := A.h) (m := A.m) (N := 8) (k0 := 8) hP (tC ((e2.tr (e4.to rfl rfl)).up rfl)).hn (hR1.fr (I' := mj_upI I4 53 4 (-(nI 1))) (funext fun j => e4 32 j rfl) (funext fun j => e4 33 j rfl) (funext fun j => e4 34 j rfl)) (by omega) (fun j hj x y hx hy hxy => hG4 j hj x y hx hy hxy) (by omega) (by omega) (Or.inl upI_s) (fun I5 k2 g1 g2 g3 e5 j53 hK5 => ?_)
          have k8 : k2 = 8 := g3 (by omega)
          obtain ⟨E5, s5, hR5, hp5⟩ := mid I5 (((e4.to (cs' := [13, 15, 49, 54]) (fs' := [(53, 4)]) rfl rfl).up rfl).tr (e5.to rfl rfl)) (fun j hj x y hx hy hxy hq => (e5 49 _ rfl).trans (hO4 j hj x y hx hy hxy hq))
          refine q_5 rfl ?_
          refine q_33 rfl (by decide) (hP _ _ _ rfl) ?_
          refine q_5 rfl ?_
          refine q_33 rfl (by decide) (hP _ _ _ rfl) ?_
          refine q_47 (mj_ev_mono _) [_] rfl rfl rfl (by decide) rfl rfl rfl ?_
          refine db_13 (w := A.w) (c := cdy A.c (10 * one + X)) (h := A.h) (m := A.m) (se := A.se) hP hn10 (hB.sb.fr (E5 30 2 rfl) (funext fun j => E5 36 j rfl) (funext fun j => E5 37 j rfl) (funext fun j => E5 38 j rfl)) (fun j hj p hp => hK5 j (by omega) p hp) hB.cw.gm hh10 ?_
          rw [hs, if_pos rfl]
          first | refine q_eqN0 (by omega) (fun hh => absurd hh (by omega)) (fun hh => ?_) | refine q_eqI0 (fun hh => absurd hh (by omega)) (fun hh => ?_)
          refine q_5 rfl ?_
          refine q_0 ?_
          refine q_3 rfl ?_
          first | refine q_mul ?_ | refine q_11 rfl ?_
          refine q_3 rfl ?_
          first | refine q_add ?_ | refine q_11 rfl ?_
          refine q_47 (mj_ev_mono _) [_] rfl rfl rfl (by decide) rfl rfl rfl ?_
          refine c_27 (w := A.w) (c := cdy A.c (10 * one + X)) (h := A.h) (m := A.m) hP (tC E5).hn hn10 (fun j hj p hp => hK5 j (by omega) p hp) hB.cw.gm hp5.1 m9 hp5.2.1 (fun f hf => ⟨hp5.2.2 f hf, nb_le _ _⟩) (fun I6 L6 e6 eL6 f1 f2 f3 => ?_)
          first | refine q_inc rfl rfl rfl ?_ | refine q_9 rfl rfl rfl ?_
          refine q_23 ?_
          exact ih I6 L6 _ (E5.tr (e6.to rfl rfl)) (eL.tr eL6) (fun j e => (e6 32 j rfl).trans (s5 j e)) (hR5.fr (funext fun j => e6 32 j rfl) (funext fun j => e6 33 j rfl) (funext fun j => e6 34 j rfl)) (fun i e => (ag2 i e).1) (fun j hj x y hx hy hxy hq => (e6 49 _ rfl).trans ((e5 49 _ rfl).trans (hO4 j hj x y hx hy hxy hq))) (yes hs I5 I6 L6 e6 f1 f2 f3)
  show mj_run (mj_ev (d + 5)) k26 Q (k26 0) [some (.ref 65), some (.int (nI one)), none, none, none] [] (107, I, L, P) 0 0
  refine q_5 rfl ?_
  refine q_33 rfl (by decide) (hP _ _ _ rfl) ?_
  refine q_33 rfl (by decide) (hP _ _ _ rfl) ?_
  refine q_33 rfl (by decide) (hP _ _ _ rfl) ?_
  refine q_8 rfl rfl rfl ?_
  refine q_5 rfl ?_
  refine q_3 rfl ?_
  first | refine q_38E _ rfl (by decide) rfl (by show _ < 10; omega) (by decide) (o1) ?_ | refine q_38 _ rfl (by decide) rfl (by show _ < 10; omega) (by decide) ?_
  refine q_6 rfl rfl rfl ?_
  refine q_0 ?_
  refine q_6 rfl rfl rfl ?_
  exact L18 0 (by omega) I L A.c Eqf.rf EqL.rf (fun _ _ => rfl) hB.cw (fun _ _ => rfl) hG.go hp
end C
