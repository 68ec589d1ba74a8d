/-! the model's ACTS, what is SEEN, the image, the tape -/
theorem RF.cp {n : Nat} {f f' : Nat → Int32} {b b' : Nat} {ro : RO} (h : RF n f b ro) (e : ∀ j, j < 33 → f' (b' + j) = f (b + j)) : RF n f' b' ro := by
  obtain ⟨h1, h2⟩ := h
  have hn := h2.n10
  refine ⟨(e 0 (by omega)).trans h1, hn, fun p hp => ?_, fun p hp => ?_, fun p hp => ?_, h2.2.2.2.2⟩
  · show f' (b' + 1 + p) = _
    rw [Nat.add_assoc, e _ (by omega), ← Nat.add_assoc]
    exact h2.col hp
  · show f' (b' + 12 + p) = _
    rw [Nat.add_assoc, e _ (by omega), ← Nat.add_assoc]
    exact h2.hol hp
  · show f' (b' + 23 + p) = _
    rw [Nat.add_assoc, e _ (by omega), ← Nat.add_assoc]
    exact h2.mat hp
/-- ACTS that are kept, with one more -/
def kpt (ac : List RO) (ro : RO) : List RO := (if ac.length = 40 then ac.drop 1 else ac) ++ [ro]
theorem kpt_len {ac : List RO} {ro : RO} (h : ac.length ≤ 40) : (kpt ac ro).length = (if ac.length = 40 then 39 else ac.length) + 1 := by
  unfold kpt
  rw [List.length_append]
  split
  · rename_i e
    rw [List.length_drop, e]
    rfl
  · rfl
theorem AC.push {n : Nat} {f f' : Nat → Int32} {ac : List RO} {ro : RO} (hl : ac.length < 40) (h : ∀ i r, ac[i]? = some r → RF n f (33 * i) r) (e1 : ∀ j, j < 33 * ac.length → f' j = f j) (e2 : RF n f' (33 * ac.length) ro) : AC n f' (ac ++ [ro]) := by
  refine ⟨by rw [List.length_append]; show ac.length + 1 ≤ 40; omega, fun i r hr => ?_⟩
  by_cases hi : i < ac.length
  · rw [List.getElem?_append_left hi] at hr
    exact (h i r hr).fr (fun j _ h2 => e1 j (by omega))
  · rw [List.getElem?_append_right (by omega)] at hr
    have : i = ac.length := by
      by_cases q : i - ac.length = 0
      · omega
      · rw [List.getElem?_eq_none (by show 1 ≤ i - ac.length; omega)] at hr
        cases hr
    subst this
    rw [Nat.sub_self] at hr
    cases hr
    exact e2
def AS.si (A : AS) (i : IM) : AS := (A.1, A.2.1, A.2.2.1, A.2.2.2.1, i, A.2.2.2.2.2)
def AS.rfs (A : AS) (k : Nat) : AS := (A.1, A.2.1, fun j => if j = k then A.rf j + nI 1 else A.rf j, A.2.2.2)
def FA (c j : Nat) : Bool := FM c j || c == 89 || c == 90 || c == 100 || (c == 73 && (j == 40 || j == 52))
theorem FA_lo {c j : Nat} (h : c < 73) : FA c j = false := by
  unfold FA
  rw [FM_lo h]
  have h1 : (c == 89) = false := by simp; omega
  have h2 : (c == 90) = false := by simp; omega
  have h3 : (c == 100) = false := by simp; omega
  have h4 : (c == 73) = false := by simp; omega
  rw [h1, h2, h3, h4]
  rfl
theorem FA_of {I I' : mj_I} (h : Eqf FM I I') : Eqf FA I I' := h.mono (fun c j e => by
  unfold FA at e
  simp only [Bool.or_eq_false_iff] at e
  exact e.1.1.1.1)
theorem MS.si {A : AS} {I I' : mj_I} {L L' : mj_L} {i : IM} (h : MS A I L) (e : Eqf FA I I') (eL : EqL FL L L') (hi : MI A.w.n (I' 89) (I' 90) (I' 100) (I' 73 40) (I' 73 52) i) : MS (A.si i) I' L' := by
  obtain ⟨h1, h2, h3, h4, h5, h6, h7, h8, h9, h10, h11⟩ := h
  have e3 : I' 103 = I 103 := funext fun j => e 103 j rfl
  have e4 : I' 104 = I 104 := funext fun j => e 104 j rfl
  have e5 : I' 105 = I 105 := funext fun j => e 105 j rfl
  refine ⟨h1.fr e (fun _ => ⟨rfl, rfl, rfl, rfl, rfl, rfl, rfl, rfl⟩), hi, ?_, (e 73 10 rfl).trans h4, h5, fun j hj => ⟨(e 79 j rfl).trans (h6 j hj).1, (h6 j hj).2⟩, (e 73 12 rfl).trans h7, h8, fun j hj => (e 80 j rfl).trans (h9 j hj), (e 94 0 rfl).trans h10, (eL 95 0 rfl).trans h11⟩
  rw [e 73 57 rfl, e 73 58 rfl, e 73 59 rfl, e3, e4, e5]
  exact h3
theorem MS.rfs {A : AS} {I : mj_I} {L : mj_L} {k : Nat} (hk : k < 3) (h : MS A I L) : MS (A.rfs k) (mj_upI I 80 k (I 80 k + nI 1)) L := by
  obtain ⟨h1, h2, h3, h4, h5, h6, h7, h8, h9, h10, h11⟩ := h
  refine ⟨h1, h2, h3, h4, h5, h6, h7, h8, fun j hj => ?_, h10, h11⟩
  show mj_upI I 80 k (I 80 k + nI 1) 80 j = if j = k then A.rf j + nI 1 else A.rf j
  rw [upI_if]
  split
  · rename_i e
    rw [e, h9 k hk]
  · exact h9 j hj
/-- a call of the model: the state behind it, what it tells, what it throws -/
def kW (Q : mj_Q) (I : mj_I) (L : mj_L) (P : mj_P) (A : AS) (th : Nat) (v : Option Value) : Prop := ∀ I' L', MS A I' L' → (∀ c j, c < 73 → I' c j = I c j) → (∀ c j, c < 73 ∨ c = 106 → L' c j = L c j) → I' 73 0 = nI th → Q (.inl v) (107, I', L', P)
theorem kW.tell {Q : mj_Q} {I : mj_I} {L : mj_L} {P : mj_P} {A : AS} {th : Nat} {v : Value} (k : kW Q I L P A th (some v)) (h : MS A I L) : kM Q I L P th v := fun I' L' e eL h0 => k I' L' (h.fr e eL) (fun c j hc => e c j (FM_lo hc)) (fun c j hc => eL c j (FL_lo6 hc)) h0
theorem kW.act {Q : mj_Q} {I I1 : mj_I} {L : mj_L} {P : mj_P} {A : AS} {v : Option Value} (k : kW Q I L P A 0 v) (e : Eqf FA (I0 I) I1) (h : MS A I1 L) (h0 : I1 73 0 = nI 0) : Q (.inl v) (107, I1, L, P) := k I1 L h (fun c j hc => (e c j (FA_lo hc)).trans (I0_fm c j (FM_lo hc))) (fun _ _ _ => rfl) h0
theorem kW.ref {Q : mj_Q} {I : mj_I} {L : mj_L} {P : mj_P} {A : AS} {v : Option Value} {k : Nat} (hk : k < 3) (kk : kW Q I L P (A.rfs k) 0 v) (h : MS A I L) : Q (.inl v) (107, mj_upI (I0 I) 80 k (I0 I 80 k + nI 1), L, P) := kk _ _ (h.i0.rfs hk) (fun c j hc => by rw [upI_c (by omega)]; exact I0_fm c j (FM_lo hc)) (fun _ _ _ => rfl) (I0_th (I := I))
section M
variable {I : mj_I} {L : mj_L} {P : mj_P} {Q : mj_Q} {d n r t a b : Nat} {A : AS}
theorem s_162 (k : Q (.inl (some (.int (I 73 0)))) (107, I, L, P)) : mj_ev (d + 1) 162 [.ref 73] (107, I, L, P) Q := by
  refine ⟨rfl, ?_⟩
  show mj_run (mj_ev d) k162 Q (k162 0) [some (.ref 73)] [] (107, I, L, P) 0 0
  refine q_5 rfl ?_
  refine q_31 rfl (by decide) ?_
  refine q_26 ?_
  exact k
theorem s_196 (hS : MS A I L) (k : kM Q I L P 0 (.int (mI A.fp))) : mj_ev (d + 12) 196 [.ref 73] (107, I, L, P) Q := by
  refine ⟨rfl, ?_⟩
  have h1 : I0 I 73 12 = mI A.fp := hS.i0.2.2.2.2.2.2.1
  show mj_run (mj_ev (d + 11)) k196 Q (k196 0) [some (.ref 73)] [] (107, I, L, P) 0 0
  refine q_5 rfl ?_
  refine q_0 ?_
  refine q_34 rfl (by decide) ?_
  refine q_5 rfl ?_
  first | refine q_31E rfl (by decide) h1 ?_ | refine q_31 rfl (by decide) ?_
  refine q_26 ?_
  exact k.fin Eqf.rf rfl
theorem s_198 (hP : PS t P) (ha : a < 3) (k : Q (.inl (some (.int (-(nI 1))))) (107, mj_upI I 80 a (I 80 a + nI 1), L, P)) : mj_ev (d + 1) 198 [.ref 73, .int (nI a)] (107, I, L, P) Q := by
  refine ⟨rfl, ?_⟩
  show mj_run (mj_ev d) k198 Q (k198 0) [some (.ref 73), some (.int (nI a))] [] (107, I, L, P) 0 0
  refine q_5 rfl ?_
  refine q_33 rfl (by decide) (hP _ _ _ rfl) ?_
  refine q_3 rfl ?_
  refine q_20 rfl rfl ?_
  refine q_38 _ rfl (by decide) rfl (by show _ < 3; omega) (by decide) ?_
  refine q_0 ?_
  refine q_11 rfl ?_
  refine q_42 _ rfl (by decide) rfl (by show _ < 3; omega) (by decide) ?_
  refine q_1 ?_
  refine q_26 ?_
  exact k
theorem s_197 (hP : PS t P) (hS : MS A I L) (k : ∀ I', Eqf (frm [90] [(73, 40)]) I I' → I' 73 40 = nI (kpt A.ac A.im.1).length → AC A.w.n (I' 90) (kpt A.ac A.im.1) → Q (.inl none) (107, I', L, P)) : mj_ev (d + 1) 197 [.ref 73] (107, I, L, P) Q := by
  refine ⟨rfl, ?_⟩
  have hac := hS.2.1.2.1
  have hl : A.ac.length ≤ 40 := hac.1
  have h40 : I 73 40 = nI A.ac.length := hS.2.1.2.2.1
  have hro : RF A.w.n (I 89) 0 A.im.1 := hS.2.1.1
  have L52 : ∀ (ac : List RO) (I1 : mj_I), ac.length < 40 → Eqf (frm [90] [(73, 40)]) I I1 → I1 73 40 = nI ac.length → (∀ i r, ac[i]? = some r → RF A.w.n (I1 90) (33 * i) r) → ac ++ [A.im.1] = kpt A.ac A.im.1 → ∀ i, i ≤ 33 → ∀ I', Eqf (frm [90] []) I1 I' → (∀ j, j < 33 * ac.length → I' 90 j = I1 90 j) → (∀ j, j < i → I' 90 (33 * ac.length + j) = I 89 j) → mj_run (mj_ev d) k197 Q (k197 52) [some (.ref 73), some (.int (nI i))] [] (107, I', L, P) 0 0 := by
    intro ac I1 hlt e1 q40 hrf hk
    refine loop_up ?_ (fun i hi ih => ?_)
    · intro I' e' g1 g2
      have q41 : I' 73 40 = nI ac.length := (e' 73 40 rfl).trans q40
      refine q_3 rfl ?_
      refine q_0 ?_
      refine q_geN (by omega) (by omega) (fun hh => ?_) (fun hh => absurd hh (by omega))
      refine q_5 rfl ?_
      refine q_18 rfl ?_
      first | refine q_31E rfl (by decide) q41 ?_ | refine q_31 rfl (by decide) ?_
      refine q_0 ?_
      first | refine q_add ?_ | refine q_11 rfl ?_
      refine q_34 rfl (by decide) ?_
      refine q_25 ?_
      refine k _ ((e1.tr (e'.to rfl rfl)).up rfl) ?_ ?_
      · rw [← hk, List.length_append]
        exact upI_s
      · rw [← hk]
        refine AC.push hlt hrf (fun j hj => g1 j hj) ?_
        exact hro.cp (fun j hj => by rw [Nat.zero_add]; exact g2 j hj)
    · intro I' e' g1 g2
      have q41 : I' 73 40 = nI ac.length := (e' 73 40 rfl).trans q40
      have q89 : I' 89 i = I 89 i := (e' 89 i rfl).trans (e1 89 i rfl)
      refine q_3 rfl ?_
      refine q_0 ?_
      refine q_geN (by omega) (by omega) (fun hh => absurd hh (by omega)) (fun hh => ?_)
      refine q_5 rfl ?_
      refine q_33 rfl (by decide) (hP _ _ _ rfl) ?_
      refine q_0 ?_
      refine q_5 rfl ?_
      first | refine q_31E rfl (by decide) q41 ?_ | refine q_31 rfl (by decide) ?_
      first | refine q_mul ?_ | refine q_11 rfl ?_
      refine q_3 rfl ?_
      first | refine q_add ?_ | refine q_11 rfl ?_
      refine q_5 rfl ?_
      refine q_33 rfl (by decide) (hP _ _ _ rfl) ?_
      refine q_3 rfl ?_
      first | refine q_38E _ rfl (by decide) rfl (by show _ < 66; omega) (by decide) (q89) ?_ | refine q_38 _ rfl (by decide) rfl (by show _ < 66; omega) (by decide) ?_
      refine q_42 _ rfl (by decide) rfl (by show _ < 1320; omega) (by decide) ?_
      first | refine q_inc rfl rfl rfl ?_ | refine q_9 rfl rfl rfl ?_
      refine q_23 ?_
      refine ih _ (e'.up rfl) (fun j hj => ?_) (fun j hj => ?_)
      · rw [upI_j (by omega)]
        exact g1 j hj
      · by_cases e : j = i
        · subst e
          exact upI_s
        · rw [upI_j (by omega)]
          exact g2 j (by omega)
  have L12 : A.ac.length = 40 → ∀ i, i ≤ 1320 → 33 ≤ i → ∀ I', Eqf (frm [90] []) I I' → (∀ j, j < i - 33 → I' 90 j = I 90 (j + 33)) → (∀ j, i - 33 ≤ j → I' 90 j = I 90 j) → mj_run (mj_ev d) k197 Q (k197 12) [some (.ref 73), some (.int (nI i))] [] (107, I', L, P) 0 0 := by
    intro h4
    refine loop_up ?_ (fun i hi ih => ?_)
    · intro _ I' e' g1 g2
      have q41 : I' 73 40 = nI 40 := (e' 73 40 rfl).trans (by rw [h40, h4])
      refine q_3 rfl ?_
      refine q_0 ?_
      refine q_geN (by omega) (by omega) (fun hh => ?_) (fun hh => absurd hh (by omega))
      refine q_5 rfl ?_
      refine q_18 rfl ?_
      first | refine q_31E rfl (by decide) q41 ?_ | refine q_31 rfl (by decide) ?_
      refine q_0 ?_
      first | refine q_sub (by omega) ?_ | refine q_11 rfl ?_
      refine q_34 rfl (by decide) ?_
      refine q_0 ?_
      refine q_6 rfl rfl rfl ?_
      refine L52 (A.ac.drop 1) _ (by rw [List.length_drop]; omega) ((e'.to rfl rfl).up rfl) (by rw [List.length_drop, h4]; exact upI_s) (fun i r hr => ?_) (by unfold kpt; rw [if_pos h4]) 0 (by omega) _ Eqf.rf (fun _ _ => rfl) (fun j hj => absurd hj (by omega))
      rw [List.getElem?_drop] at hr
      have hi : 1 + i < A.ac.length := (List.getElem?_eq_some_iff.mp hr).1
      exact (hac.2 (1 + i) r hr).cp (fun j hj => by show I' 90 (33 * i + j) = _; rw [g1 _ (by omega)]; congr 1; omega)
    · intro h33 I' e' g1 g2
      have q : I' 90 i = I 90 i := g2 i (by omega)
      refine q_3 rfl ?_
      refine q_0 ?_
      refine q_geN (by omega) (by omega) (fun hh => absurd hh (by omega)) (fun hh => ?_)
      refine q_5 rfl ?_
      refine q_33 rfl (by decide) (hP _ _ _ rfl) ?_
      refine q_3 rfl ?_
      refine q_0 ?_
      first | refine q_sub (by omega) ?_ | refine q_11 rfl ?_
      refine q_5 rfl ?_
      refine q_33 rfl (by decide) (hP _ _ _ rfl) ?_
      refine q_3 rfl ?_
      first | refine q_38E _ rfl (by decide) rfl (by show _ < 1320; omega) (by decide) (q) ?_ | refine q_38 _ rfl (by decide) rfl (by show _ < 1320; omega) (by decide) ?_
      refine q_42 _ rfl (by decide) rfl (by show _ < 1320; omega) (by decide) ?_
      first | refine q_inc rfl rfl rfl ?_ | refine q_9 rfl rfl rfl ?_
      refine q_23 ?_
      refine ih (by omega) _ (e'.up rfl) (fun j hj => ?_) (fun j hj => ?_)
      · by_cases e : j = i - 33
        · subst e
          rw [upI_s]
          congr 1
          omega
        · rw [upI_j e]
          exact g1 j (by omega)
      · rw [upI_j (by omega)]
        exact g2 j (by omega)
  show mj_run (mj_ev d) k197 Q (k197 0) [some (.ref 73), none] [] (107, I, L, P) 0 0
  refine q_5 rfl ?_
  first | refine q_31E rfl (by decide) h40 ?_ | refine q_31 rfl (by decide) ?_
  refine q_0 ?_
  refine q_neN (by omega) (by omega) (fun h1 => ?_) (fun h1 => ?_)
  · refine q_0 ?_
    refine q_6 rfl rfl rfl ?_
    exact L52 A.ac I (by omega) Eqf.rf h40 (fun i r hr => hac.2 i r hr) (by unfold kpt; rw [if_neg h1]) 0 (by omega) I Eqf.rf (fun _ _ => rfl) (fun j hj => absurd hj (by omega))
  · refine q_0 ?_
    refine q_6 rfl rfl rfl ?_
    exact L12 h1 33 (by omega) (by omega) I Eqf.rf (fun j hj => absurd hj (by omega)) (fun _ _ => rfl)
theorem MS.kp1 {I1 : mj_I} (hS : MS A I L) (e : Eqf (frm [90] [(73, 40)]) I I1) (h40 : I1 73 40 = nI (kpt A.ac A.im.1).length) (hac : AC A.w.n (I1 90) (kpt A.ac A.im.1)) : MS (A.si (A.im.1, kpt A.ac A.im.1, A.se)) I1 L := by
  have e89 : I1 89 = I 89 := funext fun j => e 89 j rfl
  have e100 : I1 100 = I 100 := funext fun j => e 100 j rfl
  refine hS.si (frm_to e (fun c hc j => by
    simp only [List.mem_cons, List.not_mem_nil, or_false] at hc
    subst hc
    rfl) (fun q hq => by
    simp only [List.mem_cons, List.not_mem_nil, or_false] at hq
    subst hq
    rfl)) EqL.rf ⟨?_, hac, h40, ?_, ?_⟩
  · rw [e89]
    exact hS.2.1.1
  · rw [e100]
    exact hS.2.1.2.2.2.1
  · rw [e 73 52 rfl]
    exact hS.2.1.2.2.2.2
theorem kp1_fa {I1 : mj_I} (e : Eqf (frm [90] [(73, 40)]) I I1) : Eqf FA I I1 := frm_to e (fun c hc j => by
    simp only [List.mem_cons, List.not_mem_nil, or_false] at hc
    subst hc
    rfl) (fun q hq => by
    simp only [List.mem_cons, List.not_mem_nil, or_false] at hq
    subst hq
    rfl)
theorem FA_89 {j : Nat} : FA 89 j = true := by
  unfold FA
  simp
theorem frr_fa {I1 : mj_I} {r : Nat} (e : Eqf (frr r) I I1) : Eqf FA I I1 := e.mono (fun c j q => by
  rw [← Bool.not_eq_true] at q ⊢
  intro e2
  apply q
  unfold frr at e2
  rw [Bool.or_eq_true, Bool.or_eq_true, Bool.and_eq_true] at e2
  rcases e2 with (h3 | h3) | ⟨h3, h4⟩
  · obtain rfl := eq_of_beq h3
    rfl
  · obtain rfl := eq_of_beq h3
    rfl
  · obtain rfl := eq_of_beq h3
    exact FA_89)
/-- another row -/
theorem MS.row {I1 : mj_I} {y : Int32} {c h : Nat → Nat} {m : MM} (hS : MS A I L) (e : Eqf (frm [91, 92, 89] []) I I1) (hy : I1 89 0 = y) (hR : RW A.w.n 0 c h m I1) : MS (A.si ((y, c, h, m), A.ac, A.se)) I1 L := by
  have e90 : I1 90 = I 90 := funext fun j => e 90 j rfl
  have e100 : I1 100 = I 100 := funext fun j => e 100 j rfl
  refine hS.si (frm_to e (fun c hc j => by
    simp only [List.mem_cons, List.not_mem_nil, or_false] at hc
    rcases hc with rfl | rfl | rfl
    · rfl
    · rfl
    · exact FA_89) (fun q hq => by cases hq)) EqL.rf ⟨⟨hy, hR⟩, ?_, ?_, ?_, ?_⟩
  · rw [e90]
    exact hS.2.1.2.1
  · rw [e 73 40 rfl]
    exact hS.2.1.2.2.1
  · rw [e100]
    exact hS.2.1.2.2.2.1
  · rw [e 73 52 rfl]
    exact hS.2.1.2.2.2.2
theorem frr_89 {I1 : mj_I} {r : Nat} (e : Eqf (frr r) I I1) : Eqf (frm [91, 92, 89] []) I I1 := e.mono (fun c j q => by
  unfold frm at q
  simp only [List.any_cons, List.any_nil, Bool.or_false, Bool.or_eq_false_iff] at q
  unfold frr
  rw [q.1, q.2.1, q.2.2]
  rfl)
def AS.hold (A : AS) (N : Nat) : AS := A.si ((A.y + nI N, A.c, (many A.w A.c (A.h, A.m) N).1, (many A.w A.c (A.h, A.m) N).2), kpt A.ac A.im.1, A.se)
def AS.dye (A : AS) (p v : Nat) : AS := A.si ((A.y, fun x => if x = p then v else A.c x, A.h, A.m), kpt A.ac A.im.1, A.se)
def AS.darn (A : AS) (p v : Nat) : AS := A.si ((A.y, A.c, fun x => if x = p then A.h p - v else A.h x, A.m), kpt A.ac A.im.1, A.se)
def AS.mat (A : AS) (m : MM) : AS := A.si ((A.y, A.c, A.h, m), kpt A.ac A.im.1, A.se)
def AS.undo (A : AS) (ro : RO) : AS := A.si (ro, A.ac.dropLast, A.se)
def AS.see (A : AS) (e : Nat × Nat × Option Nat) : AS := A.si (A.im.1, A.ac, A.se ++ [e])
def AS.forget (A : AS) : AS := A.si (A.im.1, A.ac, [])
theorem s_226 {N : Nat} (hP : PS t P) (hS : MS A I L) (h1N : 1 ≤ N) (hN : N ≤ 20) (hy : ¬ nI 999 < A.y + nI N) (k : kW Q I L P (A.hold N) 0 (some (.int (A.y + nI N)))) : mj_ev (d + 12) 226 [.ref 73, .int (nI N)] (107, I, L, P) Q := by
  refine ⟨rfl, ?_⟩
  have hS0 := hS.i0
  have y0 := hS0.hy
  have L41 : ∀ i, i ≤ N → ∀ I', Eqf FA (I0 I) I' → MS (A.hold i) I' L → I' 73 0 = nI 0 → mj_run (mj_ev (d + 11)) k226 Q (k226 41) [some (.ref 73), some (.int (nI N)), some (.int (nI i))] [] (107, I', L, P) 0 0 := by
    refine loop_up ?_ (fun i hi ih => ?_)
    · intro I' e' hS' h0
      have y1 : I' 89 0 = A.y + nI N := hS'.hy
      refine q_3 rfl ?_
      refine q_3 rfl ?_
      refine q_geN (by omega) (by omega) (fun hh => ?_) (fun hh => absurd hh (by omega))
      refine q_5 rfl ?_
      refine q_33 rfl (by decide) (hP _ _ _ rfl) ?_
      refine q_0 ?_
      first | refine q_38E _ rfl (by decide) rfl (by show _ < 66; omega) (by decide) (y1) ?_ | refine q_38 _ rfl (by decide) rfl (by show _ < 66; omega) (by decide) ?_
      refine q_26 ?_
      exact k.act e' hS' h0
    · intro I' e' hS' h0
      refine q_3 rfl ?_
      refine q_3 rfl ?_
      refine q_geN (by omega) (by omega) (fun hh => absurd hh (by omega)) (fun hh => ?_)
      refine q_5 rfl ?_
      refine q_0 ?_
      refine q_47 (mj_ev_mono _) [_] rfl rfl rfl (by decide) rfl rfl rfl ?_
      refine s_213 hP (by omega) hS'.mt hS'.rw (fun I2 e2 hR2 hy2 => ?_)
      refine q_19 rfl ?_
      first | refine q_inc rfl rfl rfl ?_ | refine q_9 rfl rfl rfl ?_
      refine q_23 ?_
      refine ih I2 (e'.tr (frr_fa e2)) ?_ ((e2 73 0 rfl).trans h0)
      refine hS'.row (frr_89 e2) ?_ hR2
      rw [hy2, show I' 89 0 = A.y + nI i from hS'.hy, Int32.add_assoc, nI_add]
  show mj_run (mj_ev (d + 11)) k226 Q (k226 0) [some (.ref 73), some (.int (nI N)), none] [] (107, I, L, P) 0 0
  refine q_5 rfl ?_
  refine q_0 ?_
  refine q_34 rfl (by decide) ?_
  refine q_3 rfl ?_
  refine q_0 ?_
  refine q_0 ?_
  refine q_48 (mj_ev_mono _) [_, _, _] rfl rfl rfl rfl rfl ?_
  refine s_164 ?_
  rw [if_neg (nI_nlt (by omega) (by omega)), if_neg (nI_nlt (by omega) (by omega))]
  first | refine q_eqN0 (by omega) (fun hh => absurd hh (by omega)) (fun hh => ?_) | refine q_eqI0 (fun hh => absurd hh (by omega)) (fun hh => ?_)
  refine q_5 rfl ?_
  refine q_33 rfl (by decide) (hP _ _ _ rfl) ?_
  refine q_0 ?_
  first | refine q_38E _ rfl (by decide) rfl (by show _ < 66; omega) (by decide) (y0) ?_ | refine q_38 _ rfl (by decide) rfl (by show _ < 66; omega) (by decide) ?_
  refine q_3 rfl ?_
  refine q_11 rfl ?_
  refine q_0 ?_
  refine q_leI (fun _ => ?_) (fun q => absurd (Int32.not_lt.mp hy) q)
  refine q_5 rfl ?_
  refine q_47 (mj_ev_mono _) [] rfl rfl rfl (by decide) rfl rfl rfl ?_
  refine s_197 hP hS0 (fun I1 e1 h40 hac => ?_)
  refine q_0 ?_
  refine q_6 rfl rfl rfl ?_
  refine L41 0 (by omega) I1 (kp1_fa e1) ?_ ((e1 73 0 rfl).trans I0_th)
  have := hS0.kp1 e1 h40 hac
  have e0 : A.hold 0 = A.si (A.im.1, kpt A.ac A.im.1, A.se) := by
    unfold AS.hold
    rw [show A.y + nI 0 = A.y from by rw [show nI 0 = 0 from nI_0]; simp]
    rfl
  rw [e0]
  exact this
theorem s_226F {x : Int32} (hP : PS t P) (hS : MS A I L) (hx : x < nI 1 ∨ nI 20 < x ∨ nI 999 < A.y + x) (k : kW Q I L P (A.rfs 1) 0 (some (.int (-(nI 1))))) : mj_ev (d + 12) 226 [.ref 73, .int x] (107, I, L, P) Q := by
  refine ⟨rfl, ?_⟩
  have hS0 := hS.i0
  have y0 := hS0.hy
  show mj_run (mj_ev (d + 11)) k226 Q (k226 0) [some (.ref 73), some (.int x), none] [] (107, I, L, P) 0 0
  by_cases h1 : x < nI 1 ∨ nI 20 < x
  · refine q_5 rfl ?_
    refine q_0 ?_
    refine q_34 rfl (by decide) ?_
    refine q_3 rfl ?_
    refine q_0 ?_
    refine q_0 ?_
    refine q_48 (mj_ev_mono _) [_, _, _] rfl rfl rfl rfl rfl ?_
    refine s_164 ?_
    rw [show (if x < nI 1 then 0 else if nI 20 < x then 0 else 1) = 0 from by rcases h1 with h | h <;> simp [h]]
    first | refine q_eqN0 (by omega) (fun hh => ?_) (fun hh => absurd hh (by omega)) | refine q_eqI0 (fun hh => ?_) (fun hh => absurd (by omega) hh)
    refine q_5 rfl ?_
    refine q_0 ?_
    refine q_47 (mj_ev_mono _) [_] rfl rfl rfl (by decide) rfl rfl rfl ?_
    refine s_198 hP (by omega) ?_
    refine q_26 ?_
    exact k.ref (by omega) hS
  · refine q_5 rfl ?_
    refine q_0 ?_
    refine q_34 rfl (by decide) ?_
    refine q_3 rfl ?_
    refine q_0 ?_
    refine q_0 ?_
    refine q_48 (mj_ev_mono _) [_, _, _] rfl rfl rfl rfl rfl ?_
    refine s_164 ?_
    rw [if_neg (fun q => h1 (Or.inl q)), if_neg (fun q => h1 (Or.inr q))]
    first | refine q_eqN0 (by omega) (fun hh => absurd hh (by omega)) (fun hh => ?_) | refine q_eqI0 (fun hh => absurd hh (by omega)) (fun hh => ?_)
    refine q_5 rfl ?_
    refine q_33 rfl (by decide) (hP _ _ _ rfl) ?_
    refine q_0 ?_
    first | refine q_38E _ rfl (by decide) rfl (by show _ < 66; omega) (by decide) (y0) ?_ | refine q_38 _ rfl (by decide) rfl (by show _ < 66; omega) (by decide) ?_
    refine q_3 rfl ?_
    refine q_11 rfl ?_
    refine q_0 ?_
    refine q_leI (fun q => absurd (hx.elim (fun z => absurd (Or.inl z) h1) (fun z => z.elim (fun z => absurd (Or.inr z) h1) id)) (Int32.not_lt.mpr q)) (fun _ => ?_)
    refine q_5 rfl ?_
    refine q_0 ?_
    refine q_47 (mj_ev_mono _) [_] rfl rfl rfl (by decide) rfl rfl rfl ?_
    refine s_198 hP (by omega) ?_
    refine q_26 ?_
    exact k.ref (by omega) hS
theorem s_227 {v : Nat} (hP : PS t P) (hS : MS A I L) (ha : a < A.w.n) (hv : v ≤ 9) (k : kW Q I L P (A.dye a v) 0 (some (.int (nI (A.c a))))) : mj_ev (d + 12) 227 [.ref 73, .int (nI a), .int (nI v)] (107, I, L, P) Q := by
  refine ⟨rfl, ?_⟩
  have hS0 := hS.i0
  have hn10 := hS.n10
  show mj_run (mj_ev (d + 11)) k227 Q (k227 0) [some (.ref 73), some (.int (nI a)), some (.int (nI v)), none] [] (107, I, L, P) 0 0
  refine q_5 rfl ?_
  refine q_0 ?_
  refine q_34 rfl (by decide) ?_
  refine q_5 rfl ?_
  refine q_3 rfl ?_
  refine q_47 (mj_ev_mono _) [_] rfl rfl rfl (by decide) rfl rfl rfl ?_
  refine s_221T hS0.hn hS.n10 I0_th ha ?_
  first | refine q_neN0 (by omega) (fun hh => ?_) (fun hh => absurd hh (by omega)) | refine q_neI0 (fun hh => ?_) (fun hh => absurd (by omega) hh)
  refine q_3 rfl ?_
  refine q_0 ?_
  refine q_0 ?_
  refine q_48 (mj_ev_mono _) [_, _, _] rfl rfl rfl rfl rfl ?_
  refine s_164 ?_
  rw [if_neg (nI_nlt (by omega) (by omega)), if_neg (nI_nlt (by omega) (by omega))]
  first | refine q_neN0 (by omega) (fun hh => ?_) (fun hh => absurd hh (by omega)) | refine q_neI0 (fun hh => ?_) (fun hh => absurd (by omega) hh)
  refine q_5 rfl ?_
  refine q_47 (mj_ev_mono _) [] rfl rfl rfl (by decide) rfl rfl rfl ?_
  refine s_197 hP hS0 (fun I1 e1 h40 hac => ?_)
  have hS1 := hS0.kp1 e1 h40 hac
  have r1 : I1 89 (1 + a) = nI (A.c a) := hS1.rw.col0 ha
  refine q_5 rfl ?_
  refine q_33 rfl (by decide) (hP _ _ _ rfl) ?_
  refine q_0 ?_
  refine q_3 rfl ?_
  first | refine q_add ?_ | refine q_11 rfl ?_
  first | refine q_38E _ rfl (by decide) rfl (by show _ < 66; omega) (by decide) (r1) ?_ | refine q_38 _ rfl (by decide) rfl (by show _ < 66; omega) (by decide) ?_
  refine q_6 rfl rfl rfl ?_
  refine q_5 rfl ?_
  refine q_33 rfl (by decide) (hP _ _ _ rfl) ?_
  refine q_0 ?_
  refine q_3 rfl ?_
  first | refine q_add ?_ | refine q_11 rfl ?_
  refine q_3 rfl ?_
  refine q_42 _ rfl (by decide) rfl (by show _ < 66; omega) (by decide) ?_
  refine q_3 rfl ?_
  refine q_26 ?_
  exact k.act ((kp1_fa e1).up FA_89) (hS1.row (Eqf.rf.up rfl) ((upI_j (by omega)).trans hS1.hy) (hS1.rw.cs ha (by omega))) ((e1 73 0 rfl).trans I0_th)
theorem s_227F1 {x y : Int32} (hS : MS A I L) (hx : x < 0 ∨ nI A.w.n ≤ x) (k : kM Q I L P 1 (.int (nI 0))) : mj_ev (d + 12) 227 [.ref 73, .int x, .int y] (107, I, L, P) Q := by
  refine ⟨rfl, ?_⟩
  have hS0 := hS.i0
  show mj_run (mj_ev (d + 11)) k227 Q (k227 0) [some (.ref 73), some (.int x), some (.int y), none] [] (107, I, L, P) 0 0
  refine q_5 rfl ?_
  refine q_0 ?_
  refine q_34 rfl (by decide) ?_
  refine q_5 rfl ?_
  refine q_3 rfl ?_
  refine q_47 (mj_ev_mono _) [_] rfl rfl rfl (by decide) rfl rfl rfl ?_
  refine s_221F hS0.hn hS.n10 I0_th hx ?_
  first | refine q_neN0 (by omega) (fun hh => absurd hh (by omega)) (fun hh => ?_) | refine q_neI0 (fun hh => absurd hh (by omega)) (fun hh => ?_)
  refine q_0 ?_
  refine q_26 ?_
  exact k.bad
theorem s_227F2 {y : Int32} (hP : PS t P) (hS : MS A I L) (ha : a < A.w.n) (hy : y < nI 0 ∨ nI 9 < y) (k : kW Q I L P (A.rfs 1) 0 (some (.int (-(nI 1))))) : mj_ev (d + 12) 227 [.ref 73, .int (nI a), .int y] (107, I, L, P) Q := by
  refine ⟨rfl, ?_⟩
  have hS0 := hS.i0
  show mj_run (mj_ev (d + 11)) k227 Q (k227 0) [some (.ref 73), some (.int (nI a)), some (.int y), none] [] (107, I, L, P) 0 0
  refine q_5 rfl ?_
  refine q_0 ?_
  refine q_34 rfl (by decide) ?_
  refine q_5 rfl ?_
  refine q_3 rfl ?_
  refine q_47 (mj_ev_mono _) [_] rfl rfl rfl (by decide) rfl rfl rfl ?_
  refine s_221T hS0.hn hS.n10 I0_th ha ?_
  first | refine q_neN0 (by omega) (fun hh => ?_) (fun hh => absurd hh (by omega)) | refine q_neI0 (fun hh => ?_) (fun hh => absurd (by omega) hh)
  refine q_3 rfl ?_
  refine q_0 ?_
  refine q_0 ?_
  refine q_48 (mj_ev_mono _) [_, _, _] rfl rfl rfl rfl rfl ?_
  refine s_164 ?_
  rw [show (if y < nI 0 then 0 else if nI 9 < y then 0 else 1) = 0 from by rcases hy with h | h <;> simp [h]]
  first | refine q_neN0 (by omega) (fun hh => absurd hh (by omega)) (fun hh => ?_) | refine q_neI0 (fun hh => absurd hh (by omega)) (fun hh => ?_)
  refine q_5 rfl ?_
  refine q_0 ?_
  refine q_47 (mj_ev_mono _) [_] rfl rfl rfl (by decide) rfl rfl rfl ?_
  refine s_198 hP (by omega) ?_
  refine q_26 ?_
  exact k.ref (by omega) hS
theorem s_228 {v : Nat} (hP : PS t P) (hS : MS A I L) (ha : a < A.w.n) (hv1 : 1 ≤ v) (hv : v ≤ 9) (k : kW Q I L P (A.darn a v) 0 (some (.int (nI (A.h a - v))))) : mj_ev (d + 12) 228 [.ref 73, .int (nI a), .int (nI v)] (107, I, L, P) Q := by
  refine ⟨rfl, ?_⟩
  have hS0 := hS.i0
  have hn10 := hS.n10
  have hh10 := hS.rw.h10 ha
  have fin : ∀ I1 : mj_I, Eqf (frm [90] [(73, 40)]) (I0 I) I1 → MS (A.si (A.im.1, kpt A.ac A.im.1, A.se)) I1 L → Q (.inl (some (.int (nI (A.h a - v))))) (107, mj_upI I1 89 (12 + a) (nI (A.h a - v)), L, P) := fun I1 e1 hS1 => k.act ((kp1_fa e1).up FA_89) (hS1.row (Eqf.rf.up rfl) ((upI_j (by omega)).trans hS1.hy) (hS1.rw.hs ha (by omega))) ((e1 73 0 rfl).trans I0_th)
  show mj_run (mj_ev (d + 11)) k228 Q (k228 0) [some (.ref 73), some (.int (nI a)), some (.int (nI v)), none] [] (107, I, L, P) 0 0
  rcases Nat.lt_or_ge (A.h a) v with hlt | hge
  · have z0 : A.h a - v = 0 := by omega
    rw [z0] at fin
    refine q_5 rfl ?_
    refine q_0 ?_
    refine q_34 rfl (by decide) ?_
    refine q_5 rfl ?_
    refine q_3 rfl ?_
    refine q_47 (mj_ev_mono _) [_] rfl rfl rfl (by decide) rfl rfl rfl ?_
    refine s_221T hS0.hn hS.n10 I0_th ha ?_
    first | refine q_neN0 (by omega) (fun hh => ?_) (fun hh => absurd hh (by omega)) | refine q_neI0 (fun hh => ?_) (fun hh => absurd (by omega) hh)
    refine q_3 rfl ?_
    refine q_0 ?_
    refine q_0 ?_
    refine q_48 (mj_ev_mono _) [_, _, _] rfl rfl rfl rfl rfl ?_
    refine s_164 ?_
    rw [if_neg (nI_nlt (by omega) (by omega)), if_neg (nI_nlt (by omega) (by omega))]
    first | refine q_neN0 (by omega) (fun hh => ?_) (fun hh => absurd hh (by omega)) | refine q_neI0 (fun hh => ?_) (fun hh => absurd (by omega) hh)
    refine q_5 rfl ?_
    refine q_47 (mj_ev_mono _) [] rfl rfl rfl (by decide) rfl rfl rfl ?_
    refine s_197 hP hS0 (fun I1 e1 h40 hac => ?_)
    have hS1 := hS0.kp1 e1 h40 hac
    have r1 : I1 89 (12 + a) = nI (A.h a) := hS1.rw.hol0 ha
    have r2 : mj_upI I1 89 (12 + a) (nI 0) 89 (12 + a) = nI 0 := upI_s
    refine q_5 rfl ?_
    refine q_33 rfl (by decide) (hP _ _ _ rfl) ?_
    refine q_0 ?_
    refine q_3 rfl ?_
    first | refine q_add ?_ | refine q_11 rfl ?_
    first | refine q_38E _ rfl (by decide) rfl (by show _ < 66; omega) (by decide) (r1) ?_ | refine q_38E _ rfl (by decide) rfl (by show _ < 66; omega) (by decide) (r2) ?_ | refine q_38 _ rfl (by decide) rfl (by show _ < 66; omega) (by decide) ?_
    refine q_3 rfl ?_
    refine q_11 rfl ?_
    refine q_6 rfl rfl rfl ?_
    refine q_5 rfl ?_
    refine q_33 rfl (by decide) (hP _ _ _ rfl) ?_
    refine q_0 ?_
    refine q_3 rfl ?_
    first | refine q_add ?_ | refine q_11 rfl ?_
    refine q_3 rfl ?_
    refine q_geI0 (fun hh => absurd hh (Int32.not_le.mpr (pk_sneg (by omega) hlt))) (fun hh => ?_)
    refine q_0 ?_
    refine q_23 ?_
    refine q_42 _ rfl (by decide) rfl (by show _ < 66; omega) (by decide) ?_
    refine q_5 rfl ?_
    refine q_33 rfl (by decide) (hP _ _ _ rfl) ?_
    refine q_0 ?_
    refine q_3 rfl ?_
    first | refine q_add ?_ | refine q_11 rfl ?_
    first | refine q_38E _ rfl (by decide) rfl (by show _ < 66; omega) (by decide) (r1) ?_ | refine q_38E _ rfl (by decide) rfl (by show _ < 66; omega) (by decide) (r2) ?_ | refine q_38 _ rfl (by decide) rfl (by show _ < 66; omega) (by decide) ?_
    refine q_26 ?_
    exact fin I1 e1 hS1
  · refine q_5 rfl ?_
    refine q_0 ?_
    refine q_34 rfl (by decide) ?_
    refine q_5 rfl ?_
    refine q_3 rfl ?_
    refine q_47 (mj_ev_mono _) [_] rfl rfl rfl (by decide) rfl rfl rfl ?_
    refine s_221T hS0.hn hS.n10 I0_th ha ?_
    first | refine q_neN0 (by omega) (fun hh => ?_) (fun hh => absurd hh (by omega)) | refine q_neI0 (fun hh => ?_) (fun hh => absurd (by omega) hh)
    refine q_3 rfl ?_
    refine q_0 ?_
    refine q_0 ?_
    refine q_48 (mj_ev_mono _) [_, _, _] rfl rfl rfl rfl rfl ?_
    refine s_164 ?_
    rw [if_neg (nI_nlt (by omega) (by omega)), if_neg (nI_nlt (by omega) (by omega))]
    first | refine q_neN0 (by omega) (fun hh => ?_) (fun hh => absurd hh (by omega)) | refine q_neI0 (fun hh => ?_) (fun hh => absurd (by omega) hh)
    refine q_5 rfl ?_
    refine q_47 (mj_ev_mono _) [] rfl rfl rfl (by decide) rfl rfl rfl ?_
    refine s_197 hP hS0 (fun I1 e1 h40 hac => ?_)
    have hS1 := hS0.kp1 e1 h40 hac
    have r1 : I1 89 (12 + a) = nI (A.h a) := hS1.rw.hol0 ha
    have r2 : mj_upI I1 89 (12 + a) (nI (A.h a - v)) 89 (12 + a) = nI (A.h a - v) := upI_s
    refine q_5 rfl ?_
    refine q_33 rfl (by decide) (hP _ _ _ rfl) ?_
    refine q_0 ?_
    refine q_3 rfl ?_
    first | refine q_add ?_ | refine q_11 rfl ?_
    first | refine q_38E _ rfl (by decide) rfl (by show _ < 66; omega) (by decide) (r1) ?_ | refine q_38E _ rfl (by decide) rfl (by show _ < 66; omega) (by decide) (r2) ?_ | refine q_38 _ rfl (by decide) rfl (by show _ < 66; omega) (by decide) ?_
    refine q_3 rfl ?_
    first | refine q_sub (by omega) ?_ | refine q_11 rfl ?_
    refine q_6 rfl rfl rfl ?_
    refine q_5 rfl ?_
    refine q_33 rfl (by decide) (hP _ _ _ rfl) ?_
    refine q_0 ?_
    refine q_3 rfl ?_
    first | refine q_add ?_ | refine q_11 rfl ?_
    refine q_3 rfl ?_
    first | refine q_geN0 (by omega) ?_ | refine q_geI0 (fun hh => ?_) (fun hh => absurd (by omega) hh)
    refine q_3 rfl ?_
    refine q_42 _ rfl (by decide) rfl (by show _ < 66; omega) (by decide) ?_
    refine q_5 rfl ?_
    refine q_33 rfl (by decide) (hP _ _ _ rfl) ?_
    refine q_0 ?_
    refine q_3 rfl ?_
    first | refine q_add ?_ | refine q_11 rfl ?_
    first | refine q_38E _ rfl (by decide) rfl (by show _ < 66; omega) (by decide) (r1) ?_ | refine q_38E _ rfl (by decide) rfl (by show _ < 66; omega) (by decide) (r2) ?_ | refine q_38 _ rfl (by decide) rfl (by show _ < 66; omega) (by decide) ?_
    refine q_26 ?_
    exact fin I1 e1 hS1
theorem s_228F1 {x y : Int32} (hS : MS A I L) (hx : x < 0 ∨ nI A.w.n ≤ x) (k : kM Q I L P 1 (.int (nI 0))) : mj_ev (d + 12) 228 [.ref 73, .int x, .int y] (107, I, L, P) Q := by
  refine ⟨rfl, ?_⟩
  have hS0 := hS.i0
  show mj_run (mj_ev (d + 11)) k228 Q (k228 0) [some (.ref 73), some (.int x), some (.int y), none] [] (107, I, L, P) 0 0
  refine q_5 rfl ?_
  refine q_0 ?_
  refine q_34 rfl (by decide) ?_
  refine q_5 rfl ?_
  refine q_3 rfl ?_
  refine q_47 (mj_ev_mono _) [_] rfl rfl rfl (by decide) rfl rfl rfl ?_
  refine s_221F hS0.hn hS.n10 I0_th hx ?_
  first | refine q_neN0 (by omega) (fun hh => absurd hh (by omega)) (fun hh => ?_) | refine q_neI0 (fun hh => absurd hh (by omega)) (fun hh => ?_)
  refine q_0 ?_
  refine q_26 ?_
  exact k.bad
theorem s_228F2 {y : Int32} (hP : PS t P) (hS : MS A I L) (ha : a < A.w.n) (hy : y < nI 1 ∨ nI 9 < y) (k : kW Q I L P (A.rfs 1) 0 (some (.int (-(nI 1))))) : mj_ev (d + 12) 228 [.ref 73, .int (nI a), .int y] (107, I, L, P) Q := by
  refine ⟨rfl, ?_⟩
  have hS0 := hS.i0
  show mj_run (mj_ev (d + 11)) k228 Q (k228 0) [some (.ref 73), some (.int (nI a)), some (.int y), none] [] (107, I, L, P) 0 0
  refine q_5 rfl ?_
  refine q_0 ?_
  refine q_34 rfl (by decide) ?_
  refine q_5 rfl ?_
  refine q_3 rfl ?_
  refine q_47 (mj_ev_mono _) [_] rfl rfl rfl (by decide) rfl rfl rfl ?_
  refine s_221T hS0.hn hS.n10 I0_th ha ?_
  first | refine q_neN0 (by omega) (fun hh => ?_) (fun hh => absurd hh (by omega)) | refine q_neI0 (fun hh => ?_) (fun hh => absurd (by omega) hh)
  refine q_3 rfl ?_
  refine q_0 ?_
  refine q_0 ?_
  refine q_48 (mj_ev_mono _) [_, _, _] rfl rfl rfl rfl rfl ?_
  refine s_164 ?_
  rw [show (if y < nI 1 then 0 else if nI 9 < y then 0 else 1) = 0 from by rcases hy with h | h <;> simp [h]]
  first | refine q_neN0 (by omega) (fun hh => absurd hh (by omega)) (fun hh => ?_) | refine q_neI0 (fun hh => absurd hh (by omega)) (fun hh => ?_)
  refine q_5 rfl ?_
  refine q_0 ?_
  refine q_47 (mj_ev_mono _) [_] rfl rfl rfl (by decide) rfl rfl rfl ?_
  refine s_198 hP (by omega) ?_
  refine q_26 ?_
  exact k.ref (by omega) hS
theorem s_229 {q : Nat} (hP : PS t P) (hS : MS A I L) (ha : a < A.w.n) (hm : A.m a = some q) (k : kW Q I L P (A.mat (unb A.m a q)) 0 (some (.int (nI q)))) : mj_ev (d + 12) 229 [.ref 73, .int (nI a)] (107, I, L, P) Q := by
  refine ⟨rfl, ?_⟩
  have hS0 := hS.i0
  have hn10 := hS.n10
  have r1 : I0 I 89 (23 + a) = nI q := by
    rw [hS0.rw.mat0 ha, hm]
    rfl
  have hq := (hS0.rw.gm a ha q hm).1
  show mj_run (mj_ev (d + 11)) k229 Q (k229 0) [some (.ref 73), some (.int (nI a)), none] [] (107, I, L, P) 0 0
  refine q_5 rfl ?_
  refine q_0 ?_
  refine q_34 rfl (by decide) ?_
  refine q_5 rfl ?_
  refine q_3 rfl ?_
  refine q_47 (mj_ev_mono _) [_] rfl rfl rfl (by decide) rfl rfl rfl ?_
  refine s_221T hS0.hn hS.n10 I0_th ha ?_
  first | refine q_neN0 (by omega) (fun hh => ?_) (fun hh => absurd hh (by omega)) | refine q_neI0 (fun hh => ?_) (fun hh => absurd (by omega) hh)
  refine q_5 rfl ?_
  refine q_33 rfl (by decide) (hP _ _ _ rfl) ?_
  refine q_0 ?_
  refine q_3 rfl ?_
  first | refine q_add ?_ | refine q_11 rfl ?_
  first | refine q_38E _ rfl (by decide) rfl (by show _ < 66; omega) (by decide) (r1) ?_ | refine q_38 _ rfl (by decide) rfl (by show _ < 66; omega) (by decide) ?_
  refine q_6 rfl rfl rfl ?_
  refine q_3 rfl ?_
  refine q_1 ?_
  refine q_neI (fun _ => ?_) (fun h => absurd (mI_ne (by omega)) h)
  refine q_5 rfl ?_
  refine q_47 (mj_ev_mono _) [] rfl rfl rfl (by decide) rfl rfl rfl ?_
  refine s_197 hP hS0 (fun I1 e1 h40 hac => ?_)
  have hS1 := hS0.kp1 e1 h40 hac
  refine q_5 rfl ?_
  refine q_0 ?_
  refine q_3 rfl ?_
  refine q_47 (mj_ev_mono _) [_, _] rfl rfl rfl (by decide) rfl rfl rfl ?_
  refine s_209 hP (by omega) hS1.rw ha hm ?_
  refine q_3 rfl ?_
  refine q_26 ?_
  exact k.act (((kp1_fa e1).up FA_89).up FA_89) (hS1.row ((Eqf.rf.up rfl).up rfl) ((upI_j (by omega)).trans ((upI_j (by omega)).trans hS1.hy)) (hS1.rw.ub ha hm)) ((e1 73 0 rfl).trans I0_th)
theorem s_229F1 {x : Int32} (hS : MS A I L) (hx : x < 0 ∨ nI A.w.n ≤ x) (k : kM Q I L P 1 (.int (nI 0))) : mj_ev (d + 12) 229 [.ref 73, .int x] (107, I, L, P) Q := by
  refine ⟨rfl, ?_⟩
  have hS0 := hS.i0
  show mj_run (mj_ev (d + 11)) k229 Q (k229 0) [some (.ref 73), some (.int x), none] [] (107, I, L, P) 0 0
  refine q_5 rfl ?_
  refine q_0 ?_
  refine q_34 rfl (by decide) ?_
  refine q_5 rfl ?_
  refine q_3 rfl ?_
  refine q_47 (mj_ev_mono _) [_] rfl rfl rfl (by decide) rfl rfl rfl ?_
  refine s_221F hS0.hn hS.n10 I0_th hx ?_
  first | refine q_neN0 (by omega) (fun hh => absurd hh (by omega)) (fun hh => ?_) | refine q_neI0 (fun hh => absurd hh (by omega)) (fun hh => ?_)
  refine q_0 ?_
  refine q_26 ?_
  exact k.bad
theorem s_229F2 (hP : PS t P) (hS : MS A I L) (ha : a < A.w.n) (hm : A.m a = none) (k : kW Q I L P (A.rfs 1) 0 (some (.int (-(nI 1))))) : mj_ev (d + 12) 229 [.ref 73, .int (nI a)] (107, I, L, P) Q := by
  refine ⟨rfl, ?_⟩
  have hS0 := hS.i0
  have hn10 := hS.n10
  have r1 : I0 I 89 (23 + a) = -(nI 1) := by
    rw [hS0.rw.mat0 ha, hm]
    rfl
  show mj_run (mj_ev (d + 11)) k229 Q (k229 0) [some (.ref 73), some (.int (nI a)), none] [] (107, I, L, P) 0 0
  refine q_5 rfl ?_
  refine q_0 ?_
  refine q_34 rfl (by decide) ?_
  refine q_5 rfl ?_
  refine q_3 rfl ?_
  refine q_47 (mj_ev_mono _) [_] rfl rfl rfl (by decide) rfl rfl rfl ?_
  refine s_221T hS0.hn hS.n10 I0_th ha ?_
  first | refine q_neN0 (by omega) (fun hh => ?_) (fun hh => absurd hh (by omega)) | refine q_neI0 (fun hh => ?_) (fun hh => absurd (by omega) hh)
  refine q_5 rfl ?_
  refine q_33 rfl (by decide) (hP _ _ _ rfl) ?_
  refine q_0 ?_
  refine q_3 rfl ?_
  first | refine q_add ?_ | refine q_11 rfl ?_
  first | refine q_38E _ rfl (by decide) rfl (by show _ < 66; omega) (by decide) (r1) ?_ | refine q_38 _ rfl (by decide) rfl (by show _ < 66; omega) (by decide) ?_
  refine q_6 rfl rfl rfl ?_
  refine q_3 rfl ?_
  refine q_1 ?_
  refine q_neI (fun h => absurd rfl h) (fun _ => ?_)
  refine q_5 rfl ?_
  refine q_0 ?_
  refine q_47 (mj_ev_mono _) [_] rfl rfl rfl (by decide) rfl rfl rfl ?_
  refine s_198 hP (by omega) ?_
  refine q_26 ?_
  exact k.ref (by omega) hS
theorem s_230 (hP : PS t P) (hS : MS A I L) (ha : a < A.w.n) (hb : b < A.w.n) (hab : a ≠ b) (hma : A.m a = none) (hmb : A.m b = none) (k : kW Q I L P (A.mat (bnd A.m a b)) 0 (some (.int (nI 1)))) : mj_ev (d + 12) 230 [.ref 73, .int (nI a), .int (nI b)] (107, I, L, P) Q := by
  refine ⟨rfl, ?_⟩
  have hS0 := hS.i0
  have hn10 := hS.n10
  have r1 : I0 I 89 (23 + a) = -(nI 1) := by
    rw [hS0.rw.mat0 ha, hma]
    rfl
  have r2 : I0 I 89 (23 + b) = -(nI 1) := by
    rw [hS0.rw.mat0 hb, hmb]
    rfl
  show mj_run (mj_ev (d + 11)) k230 Q (k230 0) [some (.ref 73), some (.int (nI a)), some (.int (nI b))] [] (107, I, L, P) 0 0
  refine q_5 rfl ?_
  refine q_0 ?_
  refine q_34 rfl (by decide) ?_
  refine q_5 rfl ?_
  refine q_3 rfl ?_
  refine q_47 (mj_ev_mono _) [_] rfl rfl rfl (by decide) rfl rfl rfl ?_
  refine s_221T hS0.hn hS.n10 I0_th ha ?_
  first | refine q_eqN0 (by omega) (fun hh => absurd hh (by omega)) (fun hh => ?_) | refine q_eqI0 (fun hh => absurd hh (by omega)) (fun hh => ?_)
  refine q_5 rfl ?_
  refine q_3 rfl ?_
  refine q_47 (mj_ev_mono _) [_] rfl rfl rfl (by decide) rfl rfl rfl ?_
  refine s_221T hS0.hn hS.n10 I0_th hb ?_
  first | refine q_neN0 (by omega) (fun hh => ?_) (fun hh => absurd hh (by omega)) | refine q_neI0 (fun hh => ?_) (fun hh => absurd (by omega) hh)
  refine q_3 rfl ?_
  refine q_3 rfl ?_
  refine q_eqN (by omega) (by omega) (fun hh => absurd hh (by omega)) (fun hh => ?_)
  refine q_5 rfl ?_
  refine q_33 rfl (by decide) (hP _ _ _ rfl) ?_
  refine q_0 ?_
  refine q_3 rfl ?_
  first | refine q_add ?_ | refine q_11 rfl ?_
  first | refine q_38E _ rfl (by decide) rfl (by show _ < 66; omega) (by decide) (r1) ?_ | refine q_38E _ rfl (by decide) rfl (by show _ < 66; omega) (by decide) (r2) ?_ | refine q_38 _ rfl (by decide) rfl (by show _ < 66; omega) (by decide) ?_
  refine q_1 ?_
  refine q_neI (fun h => absurd rfl h) (fun _ => ?_)
  refine q_5 rfl ?_
  refine q_33 rfl (by decide) (hP _ _ _ rfl) ?_
  refine q_0 ?_
  refine q_3 rfl ?_
  first | refine q_add ?_ | refine q_11 rfl ?_
  first | refine q_38E _ rfl (by decide) rfl (by show _ < 66; omega) (by decide) (r1) ?_ | refine q_38E _ rfl (by decide) rfl (by show _ < 66; omega) (by decide) (r2) ?_ | refine q_38 _ rfl (by decide) rfl (by show _ < 66; omega) (by decide) ?_
  refine q_1 ?_
  refine q_eqI (fun _ => ?_) (fun h => absurd rfl h)
  refine q_5 rfl ?_
  refine q_47 (mj_ev_mono _) [] rfl rfl rfl (by decide) rfl rfl rfl ?_
  refine s_197 hP hS0 (fun I1 e1 h40 hac => ?_)
  have hS1 := hS0.kp1 e1 h40 hac
  refine q_5 rfl ?_
  refine q_0 ?_
  refine q_3 rfl ?_
  refine q_3 rfl ?_
  refine q_47 (mj_ev_mono _) [_, _, _] rfl rfl rfl (by decide) rfl rfl rfl ?_
  refine s_208 hP (by omega) (by omega) (by omega) ?_
  refine q_0 ?_
  refine q_27 (by first | exact Or.inl rfl | exact Or.inr rfl | assumption | (split <;> first | exact Or.inl rfl | exact Or.inr rfl)) ?_
  exact k.act (((kp1_fa e1).up FA_89).up FA_89) (hS1.row ((Eqf.rf.up rfl).up rfl) ((upI_j (by omega)).trans ((upI_j (by omega)).trans hS1.hy)) (hS1.rw.bd ha hb hab hma hmb)) ((e1 73 0 rfl).trans I0_th)
theorem s_230F {x y : Int32} (hS : MS A I L) (hx : (x < 0 ∨ nI A.w.n ≤ x) ∨ (∃ a, a < A.w.n ∧ x = nI a) ∧ (y < 0 ∨ nI A.w.n ≤ y)) (k : kM Q I L P 1 (.int (nI 0))) : mj_ev (d + 12) 230 [.ref 73, .int x, .int y] (107, I, L, P) Q := by
  refine ⟨rfl, ?_⟩
  have hS0 := hS.i0
  show mj_run (mj_ev (d + 11)) k230 Q (k230 0) [some (.ref 73), some (.int x), some (.int y)] [] (107, I, L, P) 0 0
  rcases hx with hx | ⟨⟨a, ha, rfl⟩, hy⟩
  · refine q_5 rfl ?_
    refine q_0 ?_
    refine q_34 rfl (by decide) ?_
    refine q_5 rfl ?_
    refine q_3 rfl ?_
    refine q_47 (mj_ev_mono _) [_] rfl rfl rfl (by decide) rfl rfl rfl ?_
    refine s_221F hS0.hn hS.n10 I0_th hx ?_
    first | refine q_eqN0 (by omega) (fun hh => ?_) (fun hh => absurd hh (by omega)) | refine q_eqI0 (fun hh => ?_) (fun hh => absurd (by omega) hh)
    refine q_0 ?_
    refine q_27 (by first | exact Or.inl rfl | exact Or.inr rfl | assumption | (split <;> first | exact Or.inl rfl | exact Or.inr rfl)) ?_
    exact k.bad
  · refine q_5 rfl ?_
    refine q_0 ?_
    refine q_34 rfl (by decide) ?_
    refine q_5 rfl ?_
    refine q_3 rfl ?_
    refine q_47 (mj_ev_mono _) [_] rfl rfl rfl (by decide) rfl rfl rfl ?_
    refine s_221T hS0.hn hS.n10 I0_th ha ?_
    first | refine q_eqN0 (by omega) (fun hh => absurd hh (by omega)) (fun hh => ?_) | refine q_eqI0 (fun hh => absurd hh (by omega)) (fun hh => ?_)
    refine q_5 rfl ?_
    refine q_3 rfl ?_
    refine q_47 (mj_ev_mono _) [_] rfl rfl rfl (by decide) rfl rfl rfl ?_
    refine s_221F hS0.hn hS.n10 I0_th hy ?_
    first | refine q_neN0 (by omega) (fun hh => absurd hh (by omega)) (fun hh => ?_) | refine q_neI0 (fun hh => absurd hh (by omega)) (fun hh => ?_)
    refine q_0 ?_
    refine q_27 (by first | exact Or.inl rfl | exact Or.inr rfl | assumption | (split <;> first | exact Or.inl rfl | exact Or.inr rfl)) ?_
    exact k.bad
theorem s_230R (hP : PS t P) (hS : MS A I L) (ha : a < A.w.n) (hb : b < A.w.n) (hr : a = b ∨ A.m a ≠ none ∨ A.m b ≠ none) (k : kW Q I L P (A.rfs 1) 0 (some (.int (nI 0)))) : mj_ev (d + 12) 230 [.ref 73, .int (nI a), .int (nI b)] (107, I, L, P) Q := by
  refine ⟨rfl, ?_⟩
  have hS0 := hS.i0
  have hn10 := hS.n10
  have r1 := hS0.rw.mat0 ha
  have r2 := hS0.rw.mat0 hb
  have m1 := hS0.rw.m31 ha
  have m2 := hS0.rw.m31 hb
  show mj_run (mj_ev (d + 11)) k230 Q (k230 0) [some (.ref 73), some (.int (nI a)), some (.int (nI b))] [] (107, I, L, P) 0 0
  refine q_5 rfl ?_
  refine q_0 ?_
  refine q_34 rfl (by decide) ?_
  refine q_5 rfl ?_
  refine q_3 rfl ?_
  refine q_47 (mj_ev_mono _) [_] rfl rfl rfl (by decide) rfl rfl rfl ?_
  refine s_221T hS0.hn hS.n10 I0_th ha ?_
  first | refine q_eqN0 (by omega) (fun hh => absurd hh (by omega)) (fun hh => ?_) | refine q_eqI0 (fun hh => absurd hh (by omega)) (fun hh => ?_)
  refine q_5 rfl ?_
  refine q_3 rfl ?_
  refine q_47 (mj_ev_mono _) [_] rfl rfl rfl (by decide) rfl rfl rfl ?_
  refine s_221T hS0.hn hS.n10 I0_th hb ?_
  first | refine q_neN0 (by omega) (fun hh => ?_) (fun hh => absurd hh (by omega)) | refine q_neI0 (fun hh => ?_) (fun hh => absurd (by omega) hh)
  refine q_3 rfl ?_
  refine q_3 rfl ?_
  refine q_eqN (by omega) (by omega) (fun h1 => ?_) (fun h1 => ?_)
  · refine q_5 rfl ?_
    refine q_0 ?_
    refine q_47 (mj_ev_mono _) [_] rfl rfl rfl (by decide) rfl rfl rfl ?_
    refine s_198 hP (by omega) ?_
    first | refine q_leN0 (by omega) (fun hh => ?_) (fun hh => absurd hh (by omega)) | refine q_leI0 (fun hh => ?_) (fun hh => absurd (by decide) hh)
    refine q_0 ?_
    refine q_27 (by first | exact Or.inl rfl | exact Or.inr rfl | assumption | (split <;> first | exact Or.inl rfl | exact Or.inr rfl)) ?_
    exact k.ref (by omega) hS
  · refine q_5 rfl ?_
    refine q_33 rfl (by decide) (hP _ _ _ rfl) ?_
    refine q_0 ?_
    refine q_3 rfl ?_
    first | refine q_add ?_ | refine q_11 rfl ?_
    first | refine q_38E _ rfl (by decide) rfl (by show _ < 66; omega) (by decide) (r1) ?_ | refine q_38E _ rfl (by decide) rfl (by show _ < 66; omega) (by decide) (r2) ?_ | refine q_38 _ rfl (by decide) rfl (by show _ < 66; omega) (by decide) ?_
    refine q_1 ?_
    refine q_neM m1 (fun h2 => ?_) (fun h2 => ?_)
    · refine q_5 rfl ?_
      refine q_0 ?_
      refine q_47 (mj_ev_mono _) [_] rfl rfl rfl (by decide) rfl rfl rfl ?_
      refine s_198 hP (by omega) ?_
      first | refine q_leN0 (by omega) (fun hh => ?_) (fun hh => absurd hh (by omega)) | refine q_leI0 (fun hh => ?_) (fun hh => absurd (by decide) hh)
      refine q_0 ?_
      refine q_27 (by first | exact Or.inl rfl | exact Or.inr rfl | assumption | (split <;> first | exact Or.inl rfl | exact Or.inr rfl)) ?_
      exact k.ref (by omega) hS
    · refine q_5 rfl ?_
      refine q_33 rfl (by decide) (hP _ _ _ rfl) ?_
      refine q_0 ?_
      refine q_3 rfl ?_
      first | refine q_add ?_ | refine q_11 rfl ?_
      first | refine q_38E _ rfl (by decide) rfl (by show _ < 66; omega) (by decide) (r1) ?_ | refine q_38E _ rfl (by decide) rfl (by show _ < 66; omega) (by decide) (r2) ?_ | refine q_38 _ rfl (by decide) rfl (by show _ < 66; omega) (by decide) ?_
      refine q_1 ?_
      refine q_eqM m2 (fun h3 => (hr.elim (fun z => absurd z h1) (fun z => z.elim (fun z => absurd h2 z) (fun z => absurd h3 z)))) (fun h3 => ?_)
      refine q_5 rfl ?_
      refine q_0 ?_
      refine q_47 (mj_ev_mono _) [_] rfl rfl rfl (by decide) rfl rfl rfl ?_
      refine s_198 hP (by omega) ?_
      first | refine q_leN0 (by omega) (fun hh => ?_) (fun hh => absurd hh (by omega)) | refine q_leI0 (fun hh => ?_) (fun hh => absurd (by decide) hh)
      refine q_0 ?_
      refine q_27 (by first | exact Or.inl rfl | exact Or.inr rfl | assumption | (split <;> first | exact Or.inl rfl | exact Or.inr rfl)) ?_
      exact k.ref (by omega) hS
theorem s_199 {ro : RO} (hP : PS t P) (hS : MS A I L) (hl : A.ac.getLast? = some ro) (k : kW Q I L P (A.undo ro) 0 (some (.int (nI (A.ac.length - 1))))) : mj_ev (d + 12) 199 [.ref 73] (107, I, L, P) Q := by
  refine ⟨rfl, ?_⟩
  have hS0 := hS.i0
  have hac := hS0.2.1.2.1
  have hl40 : A.ac.length ≤ 40 := hac.1
  have h40 : I0 I 73 40 = nI A.ac.length := hS0.2.1.2.2.1
  have hpos : 0 < A.ac.length := by
    cases e : A.ac with
    | nil => rw [e] at hl; cases hl
    | cons _ _ => simp
  have hro : RF A.w.n (I0 I 90) (33 * (A.ac.length - 1)) ro := hac.2 _ ro (by rw [List.getLast?_eq_getElem?] at hl; exact hl)
  have L26 : ∀ i, i ≤ 33 → ∀ I', Eqf (frm [89] [(73, 40)]) (I0 I) I' → I' 73 40 = nI (A.ac.length - 1) → (∀ j, j < i → I' 89 j = I0 I 90 (33 * (A.ac.length - 1) + j)) → mj_run (mj_ev (d + 11)) k199 Q (k199 26) [some (.ref 73), some (.int (nI i))] [] (107, I', L, P) 0 0 := by
    refine loop_up ?_ (fun i hi ih => ?_)
    · intro I' e' q40 g
      have e90 : I' 90 = I0 I 90 := funext fun j => e' 90 j rfl
      have e100 : I' 100 = I0 I 100 := funext fun j => e' 100 j rfl
      have fa : Eqf FA (I0 I) I' := frm_to e' (fun c hc j => by
        simp only [List.mem_cons, List.not_mem_nil, or_false] at hc
        subst hc
        exact FA_89) (fun q hq => by
        simp only [List.mem_cons, List.not_mem_nil, or_false] at hq
        subst hq
        rfl)
      refine q_3 rfl ?_
      refine q_0 ?_
      refine q_geN (by omega) (by omega) (fun hh => ?_) (fun hh => absurd hh (by omega))
      refine q_5 rfl ?_
      first | refine q_31E rfl (by decide) q40 ?_ | refine q_31 rfl (by decide) ?_
      refine q_26 ?_
      refine k.act fa (hS0.si fa EqL.rf ⟨hro.cp (fun j hj => by rw [Nat.zero_add]; exact g j hj), ⟨by rw [List.length_dropLast]; omega, fun i r hr => ?_⟩, by rw [q40, List.length_dropLast], by rw [e100]; exact hS0.2.1.2.2.2.1, by rw [e' 73 52 rfl]; exact hS0.2.1.2.2.2.2⟩) ((e' 73 0 rfl).trans I0_th)
      rw [e90]
      rw [List.getElem?_dropLast] at hr
      split at hr
      · exact hac.2 i r hr
      · cases hr
    · intro I' e' q40 g
      have q90 : I' 90 (33 * (A.ac.length - 1) + i) = I0 I 90 (33 * (A.ac.length - 1) + i) := e' 90 _ rfl
      refine q_3 rfl ?_
      refine q_0 ?_
      refine q_geN (by omega) (by omega) (fun hh => absurd hh (by omega)) (fun hh => ?_)
      refine q_5 rfl ?_
      refine q_33 rfl (by decide) (hP _ _ _ rfl) ?_
      refine q_3 rfl ?_
      refine q_5 rfl ?_
      refine q_33 rfl (by decide) (hP _ _ _ rfl) ?_
      refine q_0 ?_
      refine q_5 rfl ?_
      first | refine q_31E rfl (by decide) q40 ?_ | refine q_31 rfl (by decide) ?_
      first | refine q_mul ?_ | refine q_11 rfl ?_
      refine q_3 rfl ?_
      first | refine q_add ?_ | refine q_11 rfl ?_
      first | refine q_38E _ rfl (by decide) rfl (by show _ < 1320; omega) (by decide) (q90) ?_ | refine q_38 _ rfl (by decide) rfl (by show _ < 1320; omega) (by decide) ?_
      refine q_42 _ rfl (by decide) rfl (by show _ < 66; omega) (by decide) ?_
      first | refine q_inc rfl rfl rfl ?_ | refine q_9 rfl rfl rfl ?_
      refine q_23 ?_
      refine ih _ (e'.up rfl) q40 (fun j hj => ?_)
      by_cases e : j = i
      · subst e
        exact upI_s
      · rw [upI_j (by omega)]
        exact g j (by omega)
  show mj_run (mj_ev (d + 11)) k199 Q (k199 0) [some (.ref 73), none] [] (107, I, L, P) 0 0
  refine q_5 rfl ?_
  refine q_0 ?_
  refine q_34 rfl (by decide) ?_
  refine q_5 rfl ?_
  first | refine q_31E rfl (by decide) h40 ?_ | refine q_31 rfl (by decide) ?_
  first | refine q_neN0 (by omega) (fun hh => ?_) (fun hh => absurd hh (by omega)) | refine q_neI0 (fun hh => ?_) (fun hh => absurd (by omega) hh)
  refine q_5 rfl ?_
  refine q_18 rfl ?_
  first | refine q_31E rfl (by decide) h40 ?_ | refine q_31 rfl (by decide) ?_
  refine q_0 ?_
  first | refine q_sub (by omega) ?_ | refine q_11 rfl ?_
  refine q_34 rfl (by decide) ?_
  refine q_0 ?_
  refine q_6 rfl rfl rfl ?_
  exact L26 0 (by omega) _ (Eqf.rf.up rfl) upI_s (fun j hj => absurd hj (by omega))
theorem s_199F (hS : MS A I L) (hl : A.ac = []) (k : kM Q I L P 0 (.int (-(nI 1)))) : mj_ev (d + 12) 199 [.ref 73] (107, I, L, P) Q := by
  refine ⟨rfl, ?_⟩
  have h40 : I0 I 73 40 = nI 0 := by
    have : I0 I 73 40 = nI A.ac.length := hS.i0.2.1.2.2.1
    rw [this, hl]
    rfl
  show mj_run (mj_ev (d + 11)) k199 Q (k199 0) [some (.ref 73), none] [] (107, I, L, P) 0 0
  refine q_5 rfl ?_
  refine q_0 ?_
  refine q_34 rfl (by decide) ?_
  refine q_5 rfl ?_
  first | refine q_31E rfl (by decide) h40 ?_ | refine q_31 rfl (by decide) ?_
  first | refine q_neN0 (by omega) (fun hh => absurd hh (by omega)) (fun hh => ?_) | refine q_neI0 (fun hh => absurd hh (by omega)) (fun hh => ?_)
  refine q_1 ?_
  refine q_26 ?_
  exact k.fin Eqf.rf rfl
end M
