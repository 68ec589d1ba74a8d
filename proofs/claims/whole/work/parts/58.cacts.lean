/-! the class's acts -/
theorem pckI {c h : Nat} {m : Option Nat} (hc : c < 16) (hh : h < 16) (hm : mN m < 16) : nI c ||| nI h <<< (nI 4 &&& 31) ||| (mI m + nI 1) <<< (nI 8 &&& 31) = nI (pck c h m) := by
  rw [mI_1, pk_shlN _ 4 (sh_k 4 (by omega)) (by omega), pk_shlN _ 8 (sh_k 8 (by omega)) (by omega), nI_or, nI_or]
  have e1 := Nat.two_pow_add_eq_or_of_lt (i := 4) (b := c) (by omega) h
  have e2 := Nat.two_pow_add_eq_or_of_lt (i := 8) (b := 2 ^ 4 * h + c) (by omega) (mN m)
  unfold pck
  congr 1
  rw [Nat.or_comm c, Nat.mul_comm h, ← e1, Nat.or_comm, Nat.mul_comm (mN m), ← e2]
  omega
theorem mx_16 {n : Nat} {m : MM} (hn : n ≤ 10) (hg : gm n m) (p : Nat) : mN (mx n m p) < 16 := by
  unfold mx
  split
  · rename_i h
    cases e : m p with
    | none => decide
    | some q =>
      have := (hg p h q e).1
      show q + 1 < 16
      omega
  · decide
theorem cx_16 {n : Nat} {c : Nat → Nat} (hc : ∀ p, p < n → c p < 10) (p : Nat) : cx n c p < 16 := by
  unfold cx
  split
  · rename_i h
    have := hc p h
    omega
  · decide
section C
variable {I : mj_I} {L : mj_L} {P : mj_P} {Q : mj_Q} {d n r t a b : Nat} {A : AS} {w : WT} {c h : Nat → Nat} {m : MM}
def uB (I : mj_I) : mj_I := mj_upI (mj_upI (mj_upI I 51 4 (-(nI 1))) 60 1 (nI 0)) 65 0 (nI 0)
def uS (I : mj_I) : mj_I := uB (mj_upI (mj_upI I 48 4 (nI 0)) 55 1 (nI 0))
theorem c_158 (hP : PS t P) (k : Q (.inl none) (107, uB I, L, P)) : mj_ev (d + 2) 158 [.ref 0] (107, I, L, P) Q := by
  refine ⟨rfl, ?_⟩
  show mj_run (mj_ev (d + 1)) k158 Q (k158 0) [some (.ref 0)] [] (107, I, L, P) 0 0
  refine q_5 rfl ?_
  refine q_33 rfl (by decide) (hP _ _ _ rfl) ?_
  refine q_47 (mj_ev_mono _) [] rfl rfl rfl (by decide) rfl rfl rfl ?_
  refine ca_15 ?_
  refine q_5 rfl ?_
  refine q_33 rfl (by decide) (hP _ _ _ rfl) ?_
  refine q_0 ?_
  refine q_35 rfl (by decide) (by first | exact Or.inl rfl | exact Or.inr rfl | assumption) ?_
  refine q_5 rfl ?_
  refine q_33 rfl (by decide) (hP _ _ _ rfl) ?_
  refine q_0 ?_
  refine q_35 rfl (by decide) (by first | exact Or.inl rfl | exact Or.inr rfl | assumption) ?_
  refine q_25 ?_
  exact k
theorem c_157 (hP : PS t P) (k : Q (.inl none) (107, uS I, L, P)) : mj_ev (d + 3) 157 [.ref 0] (107, I, L, P) Q := by
  refine ⟨rfl, ?_⟩
  show mj_run (mj_ev (d + 2)) k157 Q (k157 0) [some (.ref 0)] [] (107, I, L, P) 0 0
  refine q_5 rfl ?_
  refine q_33 rfl (by decide) (hP _ _ _ rfl) ?_
  refine q_0 ?_
  refine q_34 rfl (by decide) ?_
  refine q_5 rfl ?_
  refine q_33 rfl (by decide) (hP _ _ _ rfl) ?_
  refine q_0 ?_
  refine q_35 rfl (by decide) (by first | exact Or.inl rfl | exact Or.inr rfl | assumption) ?_
  refine q_5 rfl ?_
  refine q_47 (mj_ev_mono _) [] rfl rfl rfl (by decide) rfl rfl rfl ?_
  refine c_158 hP ?_
  refine q_25 ?_
  exact k
theorem c_66 (hP : PS t P) (hb : b + 10 < 440) (hR : CW n 32 33 34 c h m I) (k : ∀ I', Eqf (frm [35] []) I I' → (∀ j, j < b ∨ b + 11 ≤ j → I' 35 j = I 35 j) → PR n (I' 35) b (I 31 0, c, h, m) → Q (.inl none) (107, I', L, P)) : mj_ev (d + 1) 66 [.ref 31, .ref 35, .int (nI b)] (107, I, L, P) Q := by
  refine ⟨rfl, ?_⟩
  have L9 : ∀ i, i ≤ 10 → ∀ I', Eqf (frm [35] []) I I' → (∀ j, j < b ∨ b + 11 ≤ j → I' 35 j = I 35 j) → I' 35 b = I 31 0 → (∀ p, p < i → I' 35 (b + 1 + p) = nI (pck (cx n c p) (cx n h p) (mx n m p))) → mj_run (mj_ev d) k66 Q (k66 9) [some (.ref 31), some (.ref 35), some (.int (nI b)), some (.int (nI i))] [] (107, I', L, P) 0 0 := by
    refine loop_up ?_ (fun i hi ih => ?_)
    · intro I' e' g1 g2 g3
      refine q_3 rfl ?_
      refine q_0 ?_
      refine q_geN (by omega) (by omega) (fun hh => ?_) (fun hh => absurd hh (by omega))
      refine q_25 ?_
      exact k I' e' g1 ⟨g2, g3, fun p hp => hR.c10 hp, fun p hp => hR.h10 hp, hR.gm⟩
    · intro I' e' g1 g2 g3
      have r1 : I' 32 i = nI (cx n c i) := (e' 32 i rfl).trans (hR.2.1 i hi)
      have r2 : I' 33 i = nI (cx n h i) := (e' 33 i rfl).trans (hR.2.2.1 i hi)
      have r3 : I' 34 i = mI (mx n m i) := (e' 34 i rfl).trans (hR.2.2.2.1 i hi)
      refine q_3 rfl ?_
      refine q_0 ?_
      refine q_geN (by omega) (by omega) (fun hh => absurd hh (by omega)) (fun hh => ?_)
      refine q_5 rfl ?_
      refine q_3 rfl ?_
      refine q_0 ?_
      first | refine q_add ?_ | refine q_11 rfl ?_
      refine q_3 rfl ?_
      first | refine q_add ?_ | refine q_11 rfl ?_
      refine q_5 rfl ?_
      refine q_33 rfl (by decide) (hP _ _ _ rfl) ?_
      refine q_3 rfl ?_
      first | refine q_38E _ rfl (by decide) rfl (by show _ < 10; omega) (by decide) (r1) ?_ | refine q_38 _ rfl (by decide) rfl (by show _ < 10; omega) (by decide) ?_
      refine q_5 rfl ?_
      refine q_33 rfl (by decide) (hP _ _ _ rfl) ?_
      refine q_3 rfl ?_
      first | refine q_38E _ rfl (by decide) rfl (by show _ < 10; omega) (by decide) (r2) ?_ | refine q_38 _ rfl (by decide) rfl (by show _ < 10; omega) (by decide) ?_
      refine q_0 ?_
      refine q_11 rfl ?_
      refine q_11 rfl ?_
      refine q_5 rfl ?_
      refine q_33 rfl (by decide) (hP _ _ _ rfl) ?_
      refine q_3 rfl ?_
      first | refine q_38E _ rfl (by decide) rfl (by show _ < 10; omega) (by decide) (r3) ?_ | refine q_38 _ rfl (by decide) rfl (by show _ < 10; omega) (by decide) ?_
      refine q_0 ?_
      refine q_11 rfl ?_
      refine q_0 ?_
      refine q_11 rfl ?_
      refine q_11 rfl ?_
      rw [pckI (cx_16 (fun p hp => hR.c10 hp) i) (cx_16 (fun p hp => hR.h10 hp) i) (mx_16 hR.n10 hR.gm i)]
      refine q_42 (b + 1 + i) rfl (by decide) rfl (by show _ < 440; omega) (by decide) ?_
      first | refine q_inc rfl rfl rfl ?_ | refine q_9 rfl rfl rfl ?_
      refine q_23 ?_
      refine ih _ (e'.up rfl) (fun j hj => ?_) ?_ (fun p hp => ?_)
      · rw [upI_j (by omega)]
        exact g1 j hj
      · rw [upI_j (by omega)]
        exact g2
      · by_cases e : p = i
        · subst e
          exact upI_s
        · rw [upI_j (by omega)]
          exact g3 p (by omega)
  show mj_run (mj_ev d) k66 Q (k66 0) [some (.ref 31), some (.ref 35), some (.int (nI b)), none] [] (107, I, L, P) 0 0
  refine q_5 rfl ?_
  refine q_3 rfl ?_
  refine q_5 rfl ?_
  refine q_31 rfl (by decide) ?_
  refine q_42 _ rfl (by decide) rfl (by show _ < 440; omega) (by decide) ?_
  refine q_0 ?_
  refine q_6 rfl rfl rfl ?_
  exact L9 0 (by omega) _ (Eqf.rf.up rfl) (fun j hj => upI_j (by omega)) upI_s (fun p hp => absurd hp (by omega))
theorem PR.fr {f f' : Nat → Int32} {ro : RO} (hR : PR n f b ro) (e : ∀ j, b ≤ j → j < b + 11 → f' j = f j) : PR n f' b ro := ⟨(e b (by omega) (by omega)).trans hR.1, fun p hp => (e _ (by omega) (by omega)).trans (hR.2.1 p hp), hR.2.2⟩
def AS.kpa (A : AS) : AS := A.si (A.im.1, kpt A.ac A.im.1, A.se)
theorem CB.si {i : IM} {I' : mj_I} (hB : CB A I) (e : Eqf (frm [32, 33, 34, 35, 36, 37, 38] [(30, 1), (30, 2), (30, 3), (31, 0), (48, 4), (51, 4), (55, 1), (60, 1), (65, 0)]) I I') (hi : CI A.w.n 30 31 32 33 34 35 36 37 38 i I') : CB (A.si i) I' := by
  obtain ⟨h1, h2, h3, h4, h5, h6, h7, h8, h9⟩ := hB
  refine ⟨h1.fr e ⟨rfl, rfl, rfl, rfl, rfl, rfl⟩ (fun _ => rfl) (fun _ _ => ⟨rfl, rfl, rfl, rfl⟩), hi, ?_, (e 0 1 rfl).trans h4, h5, fun j hj => ⟨(e 1 j rfl).trans (h6 j hj).1, (h6 j hj).2⟩, (e 0 2 rfl).trans h7, h8, fun j hj => (e 2 j rfl).trans (h9 j hj)⟩
  show (match A.kp with
    | none => I' 0 9 = nI 0
    | some i => I' 0 9 = nI 1 ∧ CI A.w.n 39 40 41 42 43 44 45 46 47 i I')
  cases hk : A.kp with
  | none =>
    rw [hk] at h3
    exact (e 0 9 rfl).trans h3
  | some i =>
    rw [hk] at h3
    refine ⟨(e 0 9 rfl).trans h3.1, h3.2.fr (fun j hj => ?_) (e 40 0 rfl) (funext fun j => e 41 j rfl) (funext fun j => e 42 j rfl) (funext fun j => e 43 j rfl) (funext fun j => e 44 j rfl) (funext fun j => e 45 j rfl) (funext fun j => e 46 j rfl) (funext fun j => e 47 j rfl)⟩
    rcases hj with rfl | rfl | rfl
    · exact e 39 1 rfl
    · exact e 39 2 rfl
    · exact e 39 3 rfl
theorem CS.clr (hB : CB A I) (h48 : I 48 4 = nI 0) (h51 : I 51 4 = -(nI 1)) (h55 : I 55 1 = nI 0) (h60 : I 60 1 = nI 0) (h65 : I 65 0 = nI 0) : CS A I := ⟨hB, ⟨0, by omega, h48, fun j hj => absurd hj (by omega)⟩, Or.inl h51, Or.inl h55, Or.inl h60, Or.inl h65⟩
theorem CI.row {im : IM} {I' : mj_I} {ro : RO} (hi : CI n 30 31 32 33 34 35 36 37 38 im I) (e : Eqf (frm [32, 33, 34] [(31, 0), (48, 4), (51, 4), (55, 1), (60, 1), (65, 0)]) I I') (hy : I' 31 0 = ro.1) (hw : CW n 32 33 34 ro.2.1 ro.2.2.1 ro.2.2.2 I') : CI n 30 31 32 33 34 35 36 37 38 (ro, im.2) I' := by
  obtain ⟨h1, h2, ⟨f0, h3, h4, h5⟩, h6, h7, h8, h9, h10⟩ := hi
  exact ⟨hy, hw, ⟨f0, h3, (e 30 3 rfl).trans h4, fun i ro hi => (h5 i ro hi).fr (fun j _ _ => e 35 j rfl)⟩, (e 30 1 rfl).trans h6, h7, (e 30 2 rfl).trans h8, h9, fun i x he => by
    rw [e 36 i rfl, e 37 i rfl, e 38 i rfl]
    exact h10 i x he⟩
theorem c_10 (hP : PS t P) (hS : CS A I) (k : ∀ I', Eqf (frm [35] [(30, 1), (30, 3)]) I I' → CS A.kpa I' → Q (.inl none) (107, I', L, P)) : mj_ev (d + 2) 10 [.ref 30] (107, I, L, P) Q := by
  refine ⟨rfl, ?_⟩
  have hn10 := hS.cb.n10
  have hSk := hS
  obtain ⟨hB, hO, hK, hU, hZ, hD⟩ := hS
  obtain ⟨hy, hW, ⟨f0, hf0, h3, hro⟩, h1, hl, h2, hl2, hse⟩ := hB.2.1
  have hl' : A.im.2.1.length = A.ac.length := rfl
  have L32 : ∀ (ac : List RO) (f1 : Nat) (I1 : mj_I), ac.length < 40 → f1 < 40 → Eqf (frm [] [(30, 1), (30, 3)]) I I1 → I1 30 1 = nI ac.length → I1 30 3 = nI f1 → (∀ i ro, ac[i]? = some ro → PR A.w.n (I1 35) ((f1 + i) % 40 * 11) ro) → ac ++ [A.im.1] = kpt A.ac A.im.1 → mj_run (mj_ev (d + 1)) k10 Q (k10 32) [some (.ref 30)] [] (107, I1, L, P) 0 0 := by
    intro ac f1 I1 hlt hf1 e1 q1 q3 hr hk
    refine q_5 rfl ?_
    refine q_33 rfl (by decide) (hP _ _ _ rfl) ?_
    refine q_5 rfl ?_
    refine q_33 rfl (by decide) (hP _ _ _ rfl) ?_
    refine q_5 rfl ?_
    first | refine q_31E rfl (by decide) q3 ?_ | refine q_31 rfl (by decide) ?_
    refine q_5 rfl ?_
    first | refine q_31E rfl (by decide) q1 ?_ | refine q_31E rfl (by decide) q2 ?_ | refine q_31 rfl (by decide) ?_
    first | refine q_add ?_ | refine q_11 rfl ?_
    refine q_0 ?_
    first | refine q_remN (by omega) (by omega) (by omega) ?_ | refine q_rem (by assumption) ?_
    refine q_0 ?_
    first | refine q_mul ?_ | refine q_11 rfl ?_
    refine q_47 (mj_ev_mono _) [_, _] rfl rfl rfl (by decide) rfl rfl rfl ?_
    refine c_66 (b := (f1 + ac.length) % 40 * 11) hP (by omega) (hW.fr (funext fun j => e1 32 j rfl) (funext fun j => e1 33 j rfl) (funext fun j => e1 34 j rfl)) (fun I2 e2 g1 g2 => ?_)
    have q2 : I2 30 1 = nI ac.length := (e2 30 1 rfl).trans q1
    refine q_5 rfl ?_
    refine q_18 rfl ?_
    first | refine q_31E rfl (by decide) q1 ?_ | refine q_31E rfl (by decide) q2 ?_ | refine q_31 rfl (by decide) ?_
    refine q_0 ?_
    first | refine q_add ?_ | refine q_11 rfl ?_
    refine q_34 rfl (by decide) ?_
    have E : Eqf (frm [35] [(30, 1), (30, 3)]) I (mj_upI I2 30 1 (nI (ac.length + 1))) := ((e1.to rfl rfl).tr (e2.to rfl rfl)).up rfl
    refine q_25 ?_
    refine k _ E ⟨hB.si (E.to rfl rfl) ⟨(E 31 0 rfl).trans hy, hW.fr (funext fun j => E 32 j rfl) (funext fun j => E 33 j rfl) (funext fun j => E 34 j rfl), ⟨f1, hf1, ?_, fun i ro hi => ?_⟩, ?_, ?_, (E 30 2 rfl).trans h2, hl2, fun i e he => ?_⟩, hO.fr (E 48 4 rfl) (funext fun j => E 49 j rfl), hK.fr (E 51 4 rfl) (funext fun j => E 52 j rfl), hU.fr (E 55 1 rfl) (funext fun j => E 56 j rfl) (funext fun j => E 57 j rfl) (fun k h1 h8 hk => ⟨k, h1, h8, (E 48 4 rfl).trans hk⟩), hZ.fr (E 60 1 rfl) (E 60 2 rfl) (funext fun j => E 62 j rfl) (funext fun j => E 63 j rfl), hD.fr (fun j => E 65 j rfl) (funext fun j => E 66 j rfl)⟩
    · exact (upI_j (by omega)).trans ((e2 30 3 rfl).trans q3)
    · have hi' : (ac ++ [A.im.1])[i]? = some ro := by rw [hk]; exact hi
      show PR A.w.n (I2 35) _ ro
      by_cases hlt2 : i < ac.length
      · rw [List.getElem?_append_left hlt2] at hi'
        refine (hr i ro hi').fr (fun j j1 j2 => ?_)
        exact g1 j (by omega)
      · rw [List.getElem?_append_right (by omega)] at hi'
        have hil : i = ac.length := by
          by_cases q : i - ac.length = 0
          · omega
          · rw [List.getElem?_eq_none (by show 1 ≤ i - ac.length; omega)] at hi'
            cases hi'
        subst hil
        rw [Nat.sub_self] at hi'
        cases hi'
        rw [(e1 31 0 rfl).trans hy] at g2
        exact g2
    · show _ = nI (kpt A.ac A.im.1).length
      rw [← hk, List.length_append]
      exact upI_s
    · show (kpt A.ac A.im.1).length ≤ 40
      rw [← hk, List.length_append]
      exact hlt
    · rw [E 36 i rfl, E 37 i rfl, E 38 i rfl]
      exact hse i e he
  show mj_run (mj_ev (d + 1)) k10 Q (k10 0) [some (.ref 30)] [] (107, I, L, P) 0 0
  by_cases h40 : A.ac.length = 40
  · have q1 : I 30 1 = nI 40 := h1.trans (congrArg nI h40)
    have q2 : mj_upI I 30 3 (nI ((f0 + 1) % 40)) 30 1 = nI 40 := (upI_j (by omega)).trans q1
    refine q_5 rfl ?_
    first | refine q_31E rfl (by decide) q1 ?_ | refine q_31E rfl (by decide) q2 ?_ | refine q_31 rfl (by decide) ?_
    refine q_0 ?_
    refine q_neN (by omega) (by omega) (fun hh => absurd hh (by omega)) (fun hh => ?_)
    refine q_5 rfl ?_
    refine q_5 rfl ?_
    first | refine q_31E rfl (by decide) h3 ?_ | refine q_31 rfl (by decide) ?_
    refine q_0 ?_
    first | refine q_add ?_ | refine q_11 rfl ?_
    refine q_0 ?_
    first | refine q_remN (by omega) (by omega) (by omega) ?_ | refine q_rem (by assumption) ?_
    refine q_34 rfl (by decide) ?_
    refine q_5 rfl ?_
    refine q_18 rfl ?_
    first | refine q_31E rfl (by decide) q1 ?_ | refine q_31E rfl (by decide) q2 ?_ | refine q_31 rfl (by decide) ?_
    refine q_0 ?_
    first | refine q_sub (by omega) ?_ | refine q_11 rfl ?_
    refine q_34 rfl (by decide) ?_
    refine L32 (A.ac.drop 1) ((f0 + 1) % 40) _ (by rw [List.length_drop]; omega) (by omega) ((Eqf.rf.up rfl).up rfl) (by rw [List.length_drop, h40]; exact upI_s) ((upI_j (by omega)).trans upI_s) (fun i ro hi => ?_) (by unfold kpt; rw [if_pos h40])
    rw [List.getElem?_drop] at hi
    have := hro (1 + i) ro hi
    rw [show ((f0 + 1) % 40 + i) % 40 = (f0 + (1 + i)) % 40 from by omega]
    exact this
  · refine q_5 rfl ?_
    first | refine q_31E rfl (by decide) h1 ?_ | refine q_31 rfl (by decide) ?_
    refine q_0 ?_
    refine q_neN (by omega) (by omega) (fun hh => ?_) (fun hh => absurd hh (by omega))
    exact L32 A.ac f0 I (by omega) hf0 Eqf.rf h1 h3 hro (by unfold kpt; rw [if_neg h40])
end C
