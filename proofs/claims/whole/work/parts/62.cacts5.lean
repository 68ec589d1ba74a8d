/-! the class's acts (5): it sees, keeps an image -/
section C
variable {I : mj_I} {L : mj_L} {P : mj_P} {Q : mj_Q} {d n r t a b : Nat} {A : AS} {w : WT} {c h : Nat → Nat} {m : MM}
theorem c_12 {N : Nat} {o : Option Nat} (hP : PS t P) (hS : CS A I) (h8 : A.se.length < 8) (k : ∀ I', I' = mj_upI (mj_upI (mj_upI (mj_upI I 36 A.se.length (nI a)) 37 A.se.length (nI N)) 38 A.se.length (mI o)) 30 2 (nI (A.se.length + 1)) → Q (.inl (some (.int (nI 1)))) (107, I', L, P)) : mj_ev (d + 1) 12 [.ref 30, .int (nI a), .int (nI N), .int (mI o)] (107, I, L, P) Q := by
  refine ⟨rfl, ?_⟩
  have h2 : I 30 2 = nI A.se.length := hS.cb.2.1.2.2.2.2.2.1
  show mj_run (mj_ev d) k12 Q (k12 0) [some (.ref 30), some (.int (nI a)), some (.int (nI N)), some (.int (mI o))] [] (107, I, L, P) 0 0
  refine q_5 rfl ?_
  first | refine q_31E rfl (by decide) h2 ?_ | refine q_31 rfl (by decide) ?_
  refine q_0 ?_
  refine q_ltN (by omega) (by omega) (fun hh => ?_) (fun hh => absurd hh (by omega))
  refine q_5 rfl ?_
  refine q_33 rfl (by decide) (hP _ _ _ rfl) ?_
  refine q_5 rfl ?_
  first | refine q_31E rfl (by decide) h2 ?_ | refine q_31 rfl (by decide) ?_
  refine q_3 rfl ?_
  refine q_42 _ rfl (by decide) rfl (by show _ < 8; omega) (by decide) ?_
  refine q_5 rfl ?_
  refine q_33 rfl (by decide) (hP _ _ _ rfl) ?_
  refine q_5 rfl ?_
  first | refine q_31E rfl (by decide) h2 ?_ | refine q_31 rfl (by decide) ?_
  refine q_3 rfl ?_
  refine q_42 _ rfl (by decide) rfl (by show _ < 8; omega) (by decide) ?_
  refine q_5 rfl ?_
  refine q_33 rfl (by decide) (hP _ _ _ rfl) ?_
  refine q_5 rfl ?_
  first | refine q_31E rfl (by decide) h2 ?_ | refine q_31 rfl (by decide) ?_
  refine q_3 rfl ?_
  refine q_42 _ rfl (by decide) rfl (by show _ < 8; omega) (by decide) ?_
  refine q_5 rfl ?_
  refine q_18 rfl ?_
  first | refine q_31E rfl (by decide) h2 ?_ | refine q_31 rfl (by decide) ?_
  refine q_0 ?_
  first | refine q_add ?_ | refine q_11 rfl ?_
  refine q_34 rfl (by decide) ?_
  refine q_0 ?_
  refine q_27 (by first | exact Or.inl rfl | exact Or.inr rfl | assumption | (split <;> first | exact Or.inl rfl | exact Or.inr rfl)) ?_
  exact k _ rfl
theorem c_12F {x y z : Int32} (hP : PS t P) (hS : CS A I) (h8 : A.se.length = 8) (k : Q (.inl (some (.int (nI 0)))) (107, I, L, P)) : mj_ev (d + 1) 12 [.ref 30, .int x, .int y, .int z] (107, I, L, P) Q := by
  refine ⟨rfl, ?_⟩
  have h2 : I 30 2 = nI A.se.length := hS.cb.2.1.2.2.2.2.2.1
  rw [h8] at h2
  show mj_run (mj_ev d) k12 Q (k12 0) [some (.ref 30), some (.int x), some (.int y), some (.int z)] [] (107, I, L, P) 0 0
  refine q_5 rfl ?_
  first | refine q_31E rfl (by decide) h2 ?_ | refine q_31 rfl (by decide) ?_
  refine q_0 ?_
  refine q_ltN (by omega) (by omega) (fun hh => absurd hh (by omega)) (fun hh => ?_)
  refine q_0 ?_
  refine q_27 (by first | exact Or.inl rfl | exact Or.inr rfl | assumption | (split <;> first | exact Or.inl rfl | exact Or.inr rfl)) ?_
  exact k
theorem c_133 {N : Nat} {o : Option Nat} (hP : PS t P) (hS : CS A I) (ha : a < A.w.n) (ho : ∀ q, o = some q → q < A.w.n) (hne : o ≠ some a) (h8 : A.se.length ≠ 8) (h1 : 1 ≤ N) (hN : N ≤ 20) (k : kC Q I L P (A.see (a, N, o)) (.inl (some (.int (nI (A.se.length + 1)))))) : mj_ev (d + 12) 133 [.ref 0, .int (nI a), .int (nI N), .int (mI o)] (107, I, L, P) Q := by
  refine ⟨rfl, ?_⟩
  have hn10 := hS.cb.n10
  have hlt : A.se.length < 8 := by
    have : A.se.length ≤ 8 := hS.cb.2.1.2.2.2.2.2.2.1
    omega
  have hse := hS.cb.2.1.2.2.2.2.2.2.2
  have L15 : ∀ bc bs, mj_run (mj_ev (d + 11)) k133 Q (k133 15) [some (.ref 0), some (.int (nI a)), some (.int (nI N)), some (.int (mI o))] [] (107, I, L, P) bc bs := by
    intro bc bs
    refine q_3 rfl ?_
    refine q_0 ?_
    refine q_ltN (by omega) (by omega) (fun hh => absurd hh (by omega)) (fun hh => ?_)
    refine q_3 rfl ?_
    refine q_0 ?_
    refine q_gtN (by omega) (by omega) (fun hh => absurd hh (by omega)) (fun hh => ?_)
    refine q_3 rfl ?_
    refine q_3 rfl ?_
    refine q_eqI (fun z => absurd ((mI_inj (m := some a) (m' := o) (fun q e => (by cases e; omega)) (fun q e => (by have := ho q e; omega))).mp z).symm hne) (fun _ => ?_)
    refine q_5 rfl ?_
    refine q_33 rfl (by decide) (hP _ _ _ rfl) ?_
    refine q_3 rfl ?_
    refine q_3 rfl ?_
    refine q_3 rfl ?_
    refine q_47 (mj_ev_mono _) [_, _, _] rfl rfl rfl (by decide) rfl rfl rfl ?_
    refine c_12 hP hS hlt (fun I1 e1 => ?_)
    have E : Eqf (frm [36, 37, 38] [(30, 2)]) I I1 := by rw [e1]; exact (((Eqf.rf.up rfl).up rfl).up rfl).up rfl
    have q2 : mj_upI I1 65 0 (nI 0) 30 2 = nI (A.se.length + 1) := by rw [e1]; rfl
    first | refine q_neN0 (by omega) (fun hh => ?_) (fun hh => absurd hh (by omega)) | refine q_neI0 (fun hh => ?_) (fun hh => absurd (by omega) hh)
    refine q_5 rfl ?_
    refine q_33 rfl (by decide) (hP _ _ _ rfl) ?_
    refine q_0 ?_
    refine q_35 rfl (by decide) (by first | exact Or.inl rfl | exact Or.inr rfl | assumption) ?_
    refine q_5 rfl ?_
    refine q_33 rfl (by decide) (hP _ _ _ rfl) ?_
    first | refine q_31E rfl (by decide) q2 ?_ | refine q_31 rfl (by decide) ?_
    refine q_26 ?_
    refine k _ L (hS.seS (se := A.se ++ [(a, N, o)]) ((E.to rfl rfl).up rfl) upI_s (q2.trans (by rw [List.length_append]; rfl)) (by rw [List.length_append]; exact hlt) (fun i x hx => ?_)) (fun c j h73 => (congrFun (upI_c (by omega)) j).trans (E c j (frm_hi h73 rfl rfl))) (fun _ _ _ => rfl)
    by_cases hi : i < A.se.length
    · rw [List.getElem?_append_left hi] at hx
      have s1 := hse i x hx
      have w1 : mj_upI I1 65 0 (nI 0) 36 i = I 36 i := by rw [e1]; exact (congrFun (upI_c (by decide)) _).trans ((congrFun (upI_c (by decide)) _).trans ((congrFun (upI_c (by decide)) _).trans ((congrFun (upI_c (by decide)) _).trans (upI_j (by omega)))))
      have w2 : mj_upI I1 65 0 (nI 0) 37 i = I 37 i := by rw [e1]; exact (congrFun (upI_c (by decide)) _).trans ((congrFun (upI_c (by decide)) _).trans ((congrFun (upI_c (by decide)) _).trans (upI_j (by omega))))
      have w3 : mj_upI I1 65 0 (nI 0) 38 i = I 38 i := by rw [e1]; exact (congrFun (upI_c (by decide)) _).trans ((congrFun (upI_c (by decide)) _).trans (upI_j (by omega)))
      rw [w1, w2, w3]
      exact s1
    · rw [List.getElem?_append_right (by omega)] at hx
      have hil : i = A.se.length := by
        by_cases q : i - A.se.length = 0
        · omega
        · rw [List.getElem?_eq_none (by show 1 ≤ i - A.se.length; omega)] at hx
          cases hx
      subst hil
      rw [Nat.sub_self] at hx
      cases hx
      rw [e1]
      exact ⟨(congrFun (upI_c (by decide)) _).trans ((congrFun (upI_c (by decide)) _).trans ((congrFun (upI_c (by decide)) _).trans ((congrFun (upI_c (by decide)) _).trans upI_s))), (congrFun (upI_c (by decide)) _).trans ((congrFun (upI_c (by decide)) _).trans ((congrFun (upI_c (by decide)) _).trans upI_s)), (congrFun (upI_c (by decide)) _).trans ((congrFun (upI_c (by decide)) _).trans upI_s), ha, h1, hN, ho⟩
  show mj_run (mj_ev (d + 11)) k133 Q (k133 0) [some (.ref 0), some (.int (nI a)), some (.int (nI N)), some (.int (mI o))] [] (107, I, L, P) 2 12
  cases ho2 : o with
  | none =>
    rw [ho2] at L15
    refine q_5 rfl ?_
    refine q_3 rfl ?_
    refine q_47 (mj_ev_mono _) [_] rfl rfl rfl (by decide) rfl rfl rfl ?_
    refine c_149T hP hS.cb.hn hn10 ha ?_
    refine q_3 rfl ?_
    refine q_1 ?_
    refine q_eqI (fun _ => ?_) (fun h => absurd rfl h)
    exact L15 _ _
  | some q =>
    have hq := ho q ho2
    rw [ho2] at L15
    refine q_5 rfl ?_
    refine q_3 rfl ?_
    refine q_47 (mj_ev_mono _) [_] rfl rfl rfl (by decide) rfl rfl rfl ?_
    refine c_149T hP hS.cb.hn hn10 ha ?_
    refine q_3 rfl ?_
    refine q_1 ?_
    refine q_eqI (fun h => absurd h (mI_ne (by omega))) (fun _ => ?_)
    refine q_5 rfl ?_
    refine q_3 rfl ?_
    refine q_47 (mj_ev_mono _) [_] rfl rfl rfl (by decide) rfl rfl rfl ?_
    refine c_149T hP hS.cb.hn hn10 hq ?_
    exact L15 _ _
theorem c_133R {x : Int32} {o : Option Nat} (hP : PS t P) (hS : CS A I) (ha : a < A.w.n) (ho : ∀ q, o = some q → q < A.w.n) (hr : A.se.length = 8 ∨ (x < nI 1 ∨ nI 20 < x) ∨ o = some a) (k : kC Q I L P (A.rfs 2) (.inl (some (.int (-(nI 1)))))) : mj_ev (d + 12) 133 [.ref 0, .int (nI a), .int x, .int (mI o)] (107, I, L, P) Q := by
  refine ⟨rfl, ?_⟩
  have hn10 := hS.cb.n10
  have r1 := hS.cb.rf (k := 2) (by omega)
  have L44 : ∀ bc bs, mj_run (mj_ev (d + 11)) k133 Q (k133 44) [some (.ref 0), some (.int (nI a)), some (.int x), some (.int (mI o))] [] (107, I, L, P) bc bs := by
    intro bc bs
    refine q_5 rfl ?_
    refine q_33 rfl (by decide) (hP _ _ _ rfl) ?_
    refine q_0 ?_
    refine q_20 rfl rfl ?_
    first | refine q_38E _ rfl (by decide) rfl (by show _ < 3; omega) (by decide) (r1) ?_ | refine q_38 _ rfl (by decide) rfl (by show _ < 3; omega) (by decide) ?_
    refine q_0 ?_
    first | refine q_add ?_ | refine q_11 rfl ?_
    refine q_42 _ rfl (by decide) rfl (by show _ < 3; omega) (by decide) ?_
    refine q_1 ?_
    refine q_26 ?_
    exact k.ref (by omega) hS
  have L15 : ∀ bc bs, mj_run (mj_ev (d + 11)) k133 Q (k133 15) [some (.ref 0), some (.int (nI a)), some (.int x), some (.int (mI o))] [] (107, I, L, P) bc bs := by
    intro bc bs
    by_cases h1 : x < nI 1
    · refine q_3 rfl ?_
      refine q_0 ?_
      refine q_ltI (fun _ => ?_) (fun z => absurd h1 z)
      exact L44 _ _
    · by_cases h2 : nI 20 < x
      · refine q_3 rfl ?_
        refine q_0 ?_
        refine q_ltI (fun z => absurd z h1) (fun _ => ?_)
        refine q_3 rfl ?_
        refine q_0 ?_
        refine q_gtI (fun _ => ?_) (fun z => absurd h2 z)
        exact L44 _ _
      · by_cases h3 : o = some a
        · refine q_3 rfl ?_
          refine q_0 ?_
          refine q_ltI (fun z => absurd z h1) (fun _ => ?_)
          refine q_3 rfl ?_
          refine q_0 ?_
          refine q_gtI (fun z => absurd z h2) (fun _ => ?_)
          refine q_3 rfl ?_
          refine q_3 rfl ?_
          refine q_eqI (fun _ => ?_) (fun z => absurd (by rw [h3]; rfl) z)
          exact L44 _ _
        · have h8 : A.se.length = 8 := by
            rcases hr with h | (h | h) | h
            · exact h
            · exact absurd h h1
            · exact absurd h h2
            · exact absurd h h3
          refine q_3 rfl ?_
          refine q_0 ?_
          refine q_ltI (fun z => absurd z h1) (fun _ => ?_)
          refine q_3 rfl ?_
          refine q_0 ?_
          refine q_gtI (fun z => absurd z h2) (fun _ => ?_)
          refine q_3 rfl ?_
          refine q_3 rfl ?_
          refine q_eqI (fun z => absurd ((mI_inj (m := some a) (m' := o) (fun q e => (by cases e; omega)) (fun q e => (by have := ho q e; omega))).mp z).symm h3) (fun _ => ?_)
          refine q_5 rfl ?_
          refine q_33 rfl (by decide) (hP _ _ _ rfl) ?_
          refine q_3 rfl ?_
          refine q_3 rfl ?_
          refine q_3 rfl ?_
          refine q_47 (mj_ev_mono _) [_, _, _] rfl rfl rfl (by decide) rfl rfl rfl ?_
          refine c_12F hP hS h8 ?_
          first | refine q_neN0 (by omega) (fun hh => absurd hh (by omega)) (fun hh => ?_) | refine q_neI0 (fun hh => absurd hh (by omega)) (fun hh => ?_)
          exact L44 _ _
  show mj_run (mj_ev (d + 11)) k133 Q (k133 0) [some (.ref 0), some (.int (nI a)), some (.int x), some (.int (mI o))] [] (107, I, L, P) 2 12
  cases ho2 : o with
  | none =>
    rw [ho2] at L15
    refine q_5 rfl ?_
    refine q_3 rfl ?_
    refine q_47 (mj_ev_mono _) [_] rfl rfl rfl (by decide) rfl rfl rfl ?_
    refine c_149T hP hS.cb.hn hn10 ha ?_
    refine q_3 rfl ?_
    refine q_1 ?_
    refine q_eqI (fun _ => ?_) (fun h => absurd rfl h)
    exact L15 _ _
  | some q =>
    have hq := ho q ho2
    rw [ho2] at L15
    refine q_5 rfl ?_
    refine q_3 rfl ?_
    refine q_47 (mj_ev_mono _) [_] rfl rfl rfl (by decide) rfl rfl rfl ?_
    refine c_149T hP hS.cb.hn hn10 ha ?_
    refine q_3 rfl ?_
    refine q_1 ?_
    refine q_eqI (fun h => absurd h (mI_ne (by omega))) (fun _ => ?_)
    refine q_5 rfl ?_
    refine q_3 rfl ?_
    refine q_47 (mj_ev_mono _) [_] rfl rfl rfl (by decide) rfl rfl rfl ?_
    refine c_149T hP hS.cb.hn hn10 hq ?_
    exact L15 _ _
end C
