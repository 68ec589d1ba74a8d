/-! the model reads a text -/
def AS.flt (A : AS) (p : Nat) : AS := ((A.tp, 0), some p, fun j => if j = 0 then A.rf j + nI 1 else A.rf j, A.w, A.im, A.kp)
def AS.told (A : AS) (W : NR) : AS := ((A.tp, 0), none, A.rf, W.1, ((nI 0, W.c, W.h, W.m), [], []), none)
def AS.rdr (A : AS) (N : Nat) (s : ST × NR) : AS × Nat := match s.1 with
  | .inl e => (A.flt (tB A.tp N e.2), e.1)
  | .inr _ => (A.told s.2, 0)
/-- what a text of N bytes makes of it, and the answer -/
def AS.read (A : AS) (N : Nat) : AS × Nat := A.rdr N (rdS A.tp N)
theorem frm_lo {cs : List Nat} {fs : List (Nat × Nat)} {c j : Nat} (h1 : cs.all (fun q => Nat.ble 73 q) = true) (h2 : fs.all (fun q => Nat.ble 73 q.1) = true) (hc : c < 73) : frm cs fs c j = false := by
  rw [← Bool.not_eq_true]
  intro e
  unfold frm at e
  rw [Bool.or_eq_true] at e
  rcases e with h3 | h3
  · obtain ⟨q, hq, e3⟩ := List.any_eq_true.mp h3
    have := Nat.le_of_ble_eq_true (List.all_eq_true.mp h1 q hq)
    have := eq_of_beq e3
    omega
  · obtain ⟨q, hq, e3⟩ := List.any_eq_true.mp h3
    rw [Bool.and_eq_true] at e3
    have := Nat.le_of_ble_eq_true (List.all_eq_true.mp h2 q hq)
    have := eq_of_beq e3.1
    omega
theorem frm_lo6 {c j : Nat} (h : c < 73 ∨ c = 106) : frm [] [(73, 21)] c j = false := by
  rcases h with h | rfl
  · exact frm_lo rfl rfl h
  · rfl
theorem lnsS_l {b : Nat → Nat} {n : Nat} {e : Nat × Nat} {W : NR} : ∀ f, lnsS b n f (.inl e, W) = (.inl e, W)
  | 0 => rfl
  | _ + 1 => rfl
theorem lnsS_r {b : Nat → Nat} {n f j : Nat} {W : NR} : lnsS b n (f + 1) (.inr j, W) = if tK b n j = 21 then (.inr j, W) else lnsS b n f (lnS b n W j) := rfl
def FRf : List (Nat × Nat) := (73, 0) :: (73, 10) :: (73, 14) :: RdF
section M
variable {I : mj_I} {L : mj_L} {P : mj_P} {Q : mj_Q} {d n r t j : Nat} {A : AS}
theorem tB_n {b : Nat → Nat} : tB b n j ≤ n := (tB_le (tkp_le j)).2
theorem s_195f {N : Nat} (hP : PS t P) (hS : MS A I L) (hN : N ≤ A.td) {e : Nat × Nat} {I' : mj_I} {L' : mj_L} (E : Eqf (frm RdC FRf) I I') (EL : EqL (frm [] [(73, 21)]) L L') (hF : SM A.tp N (.inl e) I' L') (g10 : I' 73 10 = nI 0) (g0 : I' 73 0 = nI 0) (k : kW Q I L P (A.flt (tB A.tp N e.2)) 0 (some (.int (nI e.1)))) : ∀ x1 x2, mj_run (mj_ev (d + 11)) k195 Q (k195 109) [some (.ref 73), x1, x2] [] (107, I', L', P) 0 0 := by
  intro x1 x2
  obtain ⟨h1, h2, h3, h4, h5, h6, h7, h8, h9, h10, h11⟩ := hS
  obtain ⟨f1, f2, f3, f4⟩ := hF
  have f3b : mj_upI I' 80 0 (I' 80 0 + nI 1) 73 11 = nI e.1 := f3
  have E2 : Eqf (frm (80 :: RdC) FRf) I (mj_upI I' 80 0 (I' 80 0 + nI 1)) := (E.to rfl rfl).up rfl
  refine q_5 rfl ?_
  refine q_47 (mj_ev_mono _) [] rfl rfl rfl (by decide) rfl rfl rfl ?_
  refine s_177B f3 f1 f2 ?_
  first | refine q_neN0 (by omega) (fun hh => absurd hh (by omega)) (fun hh => ?_) | refine q_neI0 (fun hh => absurd hh (by omega)) (fun hh => ?_)
  refine q_5 rfl ?_
  refine q_33 rfl (by decide) (hP _ _ _ rfl) ?_
  refine q_0 ?_
  refine q_20 rfl rfl ?_
  refine q_38 _ rfl (by decide) rfl (by show _ < 3; omega) (by decide) ?_
  refine q_0 ?_
  refine q_11 rfl ?_
  refine q_42 _ rfl (by decide) rfl (by show _ < 3; omega) (by decide) ?_
  refine q_5 rfl ?_
  first | refine q_31E rfl (by decide) f3b ?_ | refine q_31 rfl (by decide) ?_
  refine q_26 ?_
  refine k _ L' ⟨h1.fr E2 (fun _ => ⟨rfl, rfl, rfl, rfl, rfl, rfl, rfl, rfl⟩), ?_, ?_, g10, Nat.zero_le _, fun j hj => absurd hj (Nat.not_lt_zero _), f4, fun q hq => ?_, fun j hj => ?_, (E2 94 0 rfl).trans h10, (EL 95 0 rfl).trans h11⟩ (fun c j hc => E2 c j (frm_lo rfl rfl hc)) (fun c j hc => EL c j (frm_lo6 hc)) g0
  · have e1 := E2 73 40 rfl
    have e2 := E2 73 52 rfl
    rw [e1, e2]
    exact h2.fr (fun j _ => E2 89 j rfl) (funext fun j => E2 90 j rfl) (funext fun j => E2 100 j rfl)
  · have e1 := E2 73 57 rfl
    have e2 := E2 73 58 rfl
    have e3 := E2 73 59 rfl
    rw [e1, e2, e3, show mj_upI I' 80 0 (I' 80 0 + nI 1) 103 = I 103 from funext fun j => E2 103 j rfl, show mj_upI I' 80 0 (I' 80 0 + nI 1) 104 = I 104 from funext fun j => E2 104 j rfl, show mj_upI I' 80 0 (I' 80 0 + nI 1) 105 = I 105 from funext fun j => E2 105 j rfl]
    exact h3
  · cases hq
    have := tB_n (b := A.tp) (n := N) (j := e.2)
    omega
  · show _ = if j = 0 then A.rf j + nI 1 else A.rf j
    rw [upI_f, E 80 0 rfl, E 80 j rfl, h9 j hj, h9 0 (by omega)]
    by_cases c : j = 0
    · rw [if_pos c, if_pos c, c]
    · rw [if_neg c, if_neg c]
set_option maxHeartbeats 1000000 in
theorem s_195t {N j : Nat} {W : NR} {O : List Nat} (hP : PS t P) (hS : MS A I L) {I' : mj_I} {L' : mj_L} (E : Eqf (frm RdC FRf) I I') (EL : EqL (frm [] [(73, 21)]) L L') (hF : SM A.tp N (.inr j) I' L') (hM : MR W O I') (hW : W.ok) (hO : O.length ≤ 1400) (g10 : I' 73 10 = nI 0) (g0 : I' 73 0 = nI 0) (k : kW Q I L P (A.told W) 0 (some (.int (nI 0)))) : ∀ x1 x2, mj_run (mj_ev (d + 11)) k195 Q (k195 109) [some (.ref 73), some (.int x1), x2] [] (107, I', L', P) 0 0 := by
  intro x1 x2
  obtain ⟨h1, h2, h3, h4, h5, h6, h7, h8, h9, h10, h11⟩ := hS
  obtain ⟨f1, f2⟩ := hF
  obtain ⟨m1, m2, m3, m4, m5, m6, m7⟩ := hM
  have hn10 : W.n ≤ 10 := hW.1.1
  -- the row
  have lp : ∀ (J : mj_I), (∀ K : mj_I, (∀ c, c ≠ 89 → K c = J c) → (∀ q, q < 33 → K 89 q = J 85 q) → mj_run (mj_ev (d + 11)) k195 Q (k195 241) [some (.ref 73), some (.int x1), some (.int (nI 33))] [] (107, K, L', P) 0 0) → ∀ i, i ≤ 33 → ∀ K : mj_I, (∀ c, c ≠ 89 → K c = J c) → (∀ q, q < i → K 89 q = J 85 q) → mj_run (mj_ev (d + 11)) k195 Q (k195 217) [some (.ref 73), some (.int x1), some (.int (nI i))] [] (107, K, L', P) 0 0 := by
    intro J hJ
    refine loop_up ?_ (fun i hi ih => ?_)
    · intro K k1 k2
      refine q_3 rfl ?_
      refine q_0 ?_
      refine q_geN (by omega) (by omega) (fun hh => ?_) (fun hh => absurd hh (by omega))
      exact hJ K k1 k2
    · intro K k1 k2
      refine q_3 rfl ?_
      refine q_0 ?_
      refine q_geN (by omega) (by omega) (fun hh => absurd hh (by omega)) (fun hh => ?_)
      refine q_5 rfl ?_
      refine q_33 rfl (by decide) (hP _ _ _ rfl) ?_
      refine q_3 rfl ?_
      refine q_5 rfl ?_
      refine q_33 rfl (by decide) (hP _ _ _ rfl) ?_
      refine q_3 rfl ?_
      refine q_38 _ rfl (by decide) rfl (by show _ < 33; omega) (by decide) ?_
      refine q_42 _ rfl (by decide) rfl (by show _ < 66; omega) (by decide) ?_
      first | refine q_inc rfl rfl rfl ?_ | refine q_9 rfl rfl rfl ?_
      refine q_23 ?_
      refine ih _ (fun c hc => ?_) (fun q hq => ?_)
      · rw [upI_c hc]
        exact k1 c hc
      · by_cases e : q = i
        · subst e
          rw [upI_s, k1 85 (by decide)]
        · rw [upI_j e]
          exact k2 q (by omega)
  refine q_5 rfl ?_
  refine q_47 (mj_ev_mono _) [] rfl rfl rfl (by decide) rfl rfl rfl ?_
  refine s_177G f1.1 ?_
  first | refine q_neN0 (by omega) (fun hh => ?_) (fun hh => absurd hh (by omega)) | refine q_neI0 (fun hh => ?_) (fun hh => absurd (by omega) hh)
  refine q_5 rfl ?_
  refine q_5 rfl ?_
  first | refine q_31E rfl (by decide) m1 ?_ | refine q_31 rfl (by decide) ?_
  refine q_34 rfl (by decide) ?_
  refine q_5 rfl ?_
  refine q_5 rfl ?_
  refine q_31 rfl (by decide) ?_
  refine q_34 rfl (by decide) ?_
  refine q_5 rfl ?_
  refine q_5 rfl ?_
  refine q_31 rfl (by decide) ?_
  refine q_34 rfl (by decide) ?_
  refine q_5 rfl ?_
  refine q_5 rfl ?_
  refine q_33 rfl (by decide) (hP _ _ _ rfl) ?_
  refine q_5 rfl ?_
  refine q_33 rfl (by decide) (hP _ _ _ rfl) ?_
  refine q_47 (mj_ev_mono _) [_, _] rfl rfl rfl (by decide) rfl rfl rfl ?_
  refine s_165 (x := 81) (y := 74) (N := 11) rfl rfl (by decide) (by decide) rfl rfl (by decide) (by decide) (fun I1 c1 d1 => ?_)
  refine q_5 rfl ?_
  refine q_5 rfl ?_
  refine q_33 rfl (by decide) (hP _ _ _ rfl) ?_
  refine q_5 rfl ?_
  refine q_33 rfl (by decide) (hP _ _ _ rfl) ?_
  refine q_47 (mj_ev_mono _) [_, _] rfl rfl rfl (by decide) rfl rfl rfl ?_
  refine s_165 (x := 82) (y := 75) (N := 11) rfl rfl (by decide) (by decide) rfl rfl (by decide) (by decide) (fun I2 c2 d2 => ?_)
  refine q_5 rfl ?_
  refine q_5 rfl ?_
  refine q_33 rfl (by decide) (hP _ _ _ rfl) ?_
  refine q_5 rfl ?_
  refine q_33 rfl (by decide) (hP _ _ _ rfl) ?_
  refine q_47 (mj_ev_mono _) [_, _] rfl rfl rfl (by decide) rfl rfl rfl ?_
  refine s_165 (x := 83) (y := 76) (N := 11) rfl rfl (by decide) (by decide) rfl rfl (by decide) (by decide) (fun I3 c3 d3 => ?_)
  refine q_5 rfl ?_
  refine q_5 rfl ?_
  refine q_33 rfl (by decide) (hP _ _ _ rfl) ?_
  refine q_5 rfl ?_
  refine q_33 rfl (by decide) (hP _ _ _ rfl) ?_
  refine q_47 (mj_ev_mono _) [_, _] rfl rfl rfl (by decide) rfl rfl rfl ?_
  refine s_165 (x := 84) (y := 77) (N := 11) rfl rfl (by decide) (by decide) rfl rfl (by decide) (by decide) (fun I4 c4 d4 => ?_)
  refine q_5 rfl ?_
  refine q_5 rfl ?_
  refine q_33 rfl (by decide) (hP _ _ _ rfl) ?_
  refine q_5 rfl ?_
  refine q_33 rfl (by decide) (hP _ _ _ rfl) ?_
  refine q_47 (mj_ev_mono _) [_, _] rfl rfl rfl (by decide) rfl rfl rfl ?_
  refine s_165 (x := 86) (y := 78) (N := 1400) rfl rfl (by decide) (by decide) rfl rfl (by decide) (by decide) (fun I5 c5 d5 => ?_)
  refine q_0 ?_
  refine q_6 rfl rfl rfl ?_
  refine lp I5 (fun K k1 k2 => ?_) 0 (by omega) I5 (fun _ _ => rfl) (fun q hq => absurd hq (by omega))
  have zz : ∀ c, c ≠ 89 → c ≠ 78 → c ≠ 77 → c ≠ 76 → c ≠ 75 → c ≠ 74 → K c = mj_upI (mj_upI (mj_upI I' 73 1 (nI W.n)) 73 2 (I' 73 23)) 73 3 (I' 73 24) c := fun c q1 q2 q3 q4 q5 q6 => (k1 c q1).trans ((c5 c q2).trans ((c4 c q3).trans ((c3 c q4).trans ((c2 c q5).trans (c1 c q6)))))
  have z74 : ∀ p, p < 11 → K 74 p = I' 81 p := fun p hp => (congrFun ((k1 74 (by decide)).trans ((c5 74 (by decide)).trans ((c4 74 (by decide)).trans ((c3 74 (by decide)).trans (c2 74 (by decide)))))) p).trans (d1 p hp)
  have z75 : ∀ p, p < 11 → K 75 p = I' 82 p := fun p hp => (congrFun ((k1 75 (by decide)).trans ((c5 75 (by decide)).trans ((c4 75 (by decide)).trans (c3 75 (by decide))))) p).trans ((d2 p hp).trans (congrFun (c1 82 (by decide)) p))
  have z76 : ∀ p, p < 11 → K 76 p = I' 83 p := fun p hp => (congrFun ((k1 76 (by decide)).trans ((c5 76 (by decide)).trans (c4 76 (by decide)))) p).trans ((d3 p hp).trans (congrFun ((c2 83 (by decide)).trans (c1 83 (by decide))) p))
  have z77 : ∀ p, p < 11 → K 77 p = I' 84 p := fun p hp => (congrFun ((k1 77 (by decide)).trans (c5 77 (by decide))) p).trans ((d4 p hp).trans (congrFun ((c3 84 (by decide)).trans ((c2 84 (by decide)).trans (c1 84 (by decide)))) p))
  have z78 : ∀ p, p < 1400 → K 78 p = I' 86 p := fun p hp => (congrFun (k1 78 (by decide)) p).trans ((d5 p hp).trans (congrFun ((c4 86 (by decide)).trans ((c3 86 (by decide)).trans ((c2 86 (by decide)).trans (c1 86 (by decide))))) p))
  have z89 : ∀ q, q < 33 → K 89 q = I' 85 q := fun q hq => (k2 q hq).trans (congrFun ((c5 85 (by decide)).trans ((c4 85 (by decide)).trans ((c3 85 (by decide)).trans ((c2 85 (by decide)).trans (c1 85 (by decide)))))) q)
  have z73 := zz 73 (by decide) (by decide) (by decide) (by decide) (by decide) (by decide)
  have zO : OUT O (K 78) := fun i v hv => (z78 i (by have := (List.getElem?_eq_some_iff.mp hv).1; omega)).trans (m7 i v hv)
  refine q_5 rfl ?_
  refine q_0 ?_
  refine q_34 rfl (by decide) ?_
  refine q_5 rfl ?_
  refine q_0 ?_
  refine q_34 rfl (by decide) ?_
  refine q_5 rfl ?_
  refine q_0 ?_
  refine q_35 rfl (by decide) (by first | exact Or.inl rfl | exact Or.inr rfl | assumption) ?_
  refine q_0 ?_
  refine q_26 ?_
  refine k _ L' ⟨⟨hW.1, ?_, fun p hp => ?_, ?_, ?_⟩, ⟨⟨?_, hn10, fun p hp => ?_, fun p hp => ?_, fun p hp => ?_, fun p hp => (hW.2.1 p hp).1, fun p hp => (hW.2.1 p hp).2, hW.2.2⟩, ⟨Nat.zero_le _, fun i e h => (by cases h)⟩, rfl, ⟨Nat.zero_le _, fun i e h => (by cases h)⟩, rfl⟩, ?_, ?_, Nat.zero_le _, fun j hj => absurd hj (Nat.not_lt_zero _), ?_, fun q hq => (by cases hq), fun j hj => ?_, ?_, (EL 95 0 rfl).trans h11⟩ (fun c j hc => ?_) (fun c j hc => EL c j (frm_lo6 hc)) ?_
  · exact congrFun z73 1
  · have hp' : p < W.n := hp
    obtain ⟨b1, b2, b3, b4, -⟩ := m2 p hp'
    exact ⟨(z74 p (by omega)).trans b1, (z75 p (by omega)).trans b2, (z76 p (by omega)).trans b3, (z77 p (by omega)).trans b4⟩
  · show ruleAt (K 78) (K 73 2) 0 6 W.1.al
    rw [show K 73 2 = I' 73 23 from congrFun z73 2]
    exact m4.at zO
  · show ruleAt (K 78) (K 73 3) 6 10 W.1.li
    rw [show K 73 3 = I' 73 24 from congrFun z73 3]
    exact m5.at zO
  · exact (z89 0 (by omega)).trans m3
  · have hp' : p < W.n := hp
    show K 89 (0 + 1 + p) = nI (W.c p)
    rw [show 0 + 1 + p = 1 + p by omega]
    exact (z89 _ (by omega)).trans (m2 p hp').2.2.2.2.1
  · have hp' : p < W.n := hp
    show K 89 (0 + 12 + p) = nI (W.h p)
    rw [show 0 + 12 + p = 12 + p by omega]
    exact (z89 _ (by omega)).trans (m2 p hp').2.2.2.2.2.1
  · have hp' : p < W.n := hp
    show K 89 (0 + 23 + p) = mI (W.m p)
    rw [show 0 + 23 + p = 23 + p by omega]
    exact (z89 _ (by omega)).trans (m2 p hp').2.2.2.2.2.2
  · first | rfl | exact nb0
  · exact (congrFun z73 10).trans g10
  · exact (congrFun z73 12).trans f1.2
  · exact (congrFun (zz 80 (by decide) (by decide) (by decide) (by decide) (by decide) (by decide)) j).trans ((E 80 j rfl).trans (h9 j hj))
  · exact (congrFun (zz 94 (by decide) (by decide) (by decide) (by decide) (by decide) (by decide)) 0).trans ((E 94 0 rfl).trans h10)
  · rw [upI_c (by omega), upI_c (by omega), upI_c (by omega), zz c (by omega) (by omega) (by omega) (by omega) (by omega) (by omega), upI_c (by omega), upI_c (by omega), upI_c (by omega)]
    exact E c j (frm_lo rfl rfl hc)
  · exact (congrFun z73 0).trans g0
theorem s_195 {N : Nat} (hP : PS t P) (hS : MS A I L) (hN : N ≤ A.td) (k : kW Q I L P (A.read N).1 0 (some (.int (nI (A.read N).2)))) : mj_ev (d + 12) 195 [.ref 73, .int (nI N)] (107, I, L, P) Q := by
  refine ⟨rfl, ?_⟩
  show mj_run (mj_ev (d + 11)) k195 Q (k195 0) [some (.ref 73), some (.int (nI N)), none] [] (107, I, L, P) 0 0
  have hS' := hS
  obtain ⟨h1, h2, h3, h4, h5, h6, h7, h8, h9, h10, h11⟩ := hS
  have h4' : mj_upI I 73 0 (nI 0) 73 10 = nI A.td := h4
  unfold AS.read at k
  have lp : ∀ f j W O I' L' x2, N < f + j → Eqf (frm RdC FRf) I I' → EqL (frm [] [(73, 21)]) L L' → MB A.tp N I' → SM A.tp N (.inr j) I' L' → MR W O I' → W.ok → j ≤ N → O.length ≤ 2 * tkp A.tp N j → I' 73 10 = nI 0 → I' 73 0 = nI 0 → lnsS A.tp N f (.inr j, W) = rdS A.tp N → mj_run (mj_ev (d + 11)) k195 Q (k195 88) [some (.ref 73), some (.int (nI N)), x2] [] (107, I', L', P) 0 0 := by
    intro f
    induction f with
    | zero => intro j W O I' L' x2 h _ _ _ _ _ _ hj; omega
    | succ f ih =>
      intro j W O I' L' x2 hf E EL hB hF hM hW hj hO g10 g0 hr
      have hF' := hF
      obtain ⟨f1, f2⟩ := hF
      rw [lnsS_r] at hr
      have s4 := srt_le (tK A.tp N j)
      have g16 := f2.2.1
      by_cases k21 : tK A.tp N j = 21
      · rw [if_pos k21] at hr
        rw [← hr] at k
        rw [k21, show srt 21 = 0 from rfl] at g16
        have tl := tkp_le (b := A.tp) (n := N) j
        refine q_5 rfl ?_
        refine q_47 (mj_ev_mono _) [] rfl rfl rfl (by decide) rfl rfl rfl ?_
        refine s_177G f1.1 ?_
        first | refine q_eqN0 (by omega) (fun hh => absurd hh (by omega)) (fun hh => ?_) | refine q_eqI0 (fun hh => absurd hh (by omega)) (fun hh => ?_)
        refine q_5 rfl ?_
        first | refine q_31E rfl (by decide) g16 ?_ | refine q_31 rfl (by decide) ?_
        first | refine q_eqN0 (by omega) (fun hh => ?_) (fun hh => absurd hh (by omega)) | refine q_eqI0 (fun hh => ?_) (fun hh => absurd (by omega) hh)
        exact s_195t hP hS' E EL hF' hM hW (by omega) g10 g0 k _ _
      · rw [if_neg k21] at hr
        have s0 : srt (tK A.tp N j) ≠ 0 := fun z => by
          unfold srt at z
          rw [if_neg k21] at z
          repeat' split at z
          all_goals omega
        refine q_5 rfl ?_
        refine q_47 (mj_ev_mono _) [] rfl rfl rfl (by decide) rfl rfl rfl ?_
        refine s_177G f1.1 ?_
        first | refine q_eqN0 (by omega) (fun hh => absurd hh (by omega)) (fun hh => ?_) | refine q_eqI0 (fun hh => absurd hh (by omega)) (fun hh => ?_)
        refine q_5 rfl ?_
        first | refine q_31E rfl (by decide) g16 ?_ | refine q_31 rfl (by decide) ?_
        first | refine q_eqN0 (by omega) (fun hh => absurd hh (by omega)) (fun hh => ?_) | refine q_eqI0 (fun hh => absurd hh (by omega)) (fun hh => ?_)
        refine q_5 rfl ?_
        refine q_47 (mj_ev_mono _) [] rfl rfl rfl (by decide) rfl rfl rfl ?_
        refine s_194 (d := d + 4) hP hB hF' hM hW hj k21 hO (fun I2 L2 e2 eL2 q1 q2 => ?_)
        refine q_23 ?_
        skip
        have E2 : Eqf (frm RdC FRf) I I2 := E.tr (e2.to rfl rfl)
        have EL2 := EL.tr eL2
        have g10b : I2 73 10 = nI 0 := (e2 73 10 rfl).trans g10
        have g0b : I2 73 0 = nI 0 := (e2 73 0 rfl).trans g0
        have hB2 := hB.fm e2
        generalize hs : lnS A.tp N W j = s at *
        obtain ⟨s1, s2⟩ := s
        cases s1 with
        | inl e =>
          rw [lnsS_l] at hr
          rw [← hr] at k
          have q1' := q1
          obtain ⟨w1, w2, w3, w4⟩ := q1
          refine q_5 rfl ?_
          refine q_47 (mj_ev_mono _) [] rfl rfl rfl (by decide) rfl rfl rfl ?_
          refine s_177B (f := e.1) w3 w1 w2 ?_
          first | refine q_eqN0 (by omega) (fun hh => ?_) (fun hh => absurd hh (by omega)) | refine q_eqI0 (fun hh => ?_) (fun hh => absurd (by omega) hh)
          exact s_195f hP hS' hN E2 EL2 q1' g10b g0b k _ _
        | inr j2 =>
          obtain ⟨O2, o1, o2⟩ := q2 j2 rfl
          have ok := lnS_ok (b := A.tp) (n := N) (W := W) (j := j) (j' := j2) (by omega) hj hW (by rw [hs])
          rw [hs] at ok
          exact ih j2 s2 O2 I2 L2 _ (by omega) E2 EL2 hB2 q1 o1 ok.2.2.2 ok.2.1 o2 g10b g0b hr
  refine q_5 rfl ?_
  refine q_0 ?_
  refine q_34 rfl (by decide) ?_
  refine q_5 rfl ?_
  refine q_3 rfl ?_
  first | refine q_ltN0 (by omega) ?_ | refine q_ltI0 (fun hh => absurd hh (by omega)) (fun hh => ?_)
  refine q_3 rfl ?_
  refine q_5 rfl ?_
  first | refine q_31E rfl (by decide) h4' ?_ | refine q_31 rfl (by decide) ?_
  refine q_gtN (by omega) (by omega) (fun hh => absurd hh (by omega)) (fun hh => ?_)
  refine q_0 ?_
  refine q_23 ?_
  refine q_0 ?_
  refine q_47 (mj_ev_mono _) [_, _] rfl rfl rfl (by decide) rfl rfl rfl ?_
  refine s_163T rfl ?_
  first | refine q_neN0 (by omega) (fun hh => ?_) (fun hh => absurd hh (by omega)) | refine q_neI0 (fun hh => ?_) (fun hh => absurd (by omega) hh)
  refine q_5 rfl ?_
  refine q_0 ?_
  refine q_34 rfl (by decide) ?_
  refine q_5 rfl ?_
  refine q_1 ?_
  refine q_34 rfl (by decide) ?_
  refine q_5 rfl ?_
  refine q_0 ?_
  refine q_34 rfl (by decide) ?_
  refine q_5 rfl ?_
  refine q_3 rfl ?_
  refine q_34 rfl (by decide) ?_
  refine q_5 rfl ?_
  refine q_0 ?_
  refine q_34 rfl (by decide) ?_
  refine q_5 rfl ?_
  refine q_0 ?_
  refine q_34 rfl (by decide) ?_
  refine q_5 rfl ?_
  refine q_1 ?_
  refine q_34 rfl (by decide) ?_
  refine q_5 rfl ?_
  refine q_1 ?_
  refine q_34 rfl (by decide) ?_
  refine q_5 rfl ?_
  refine q_33 rfl (by decide) (hP _ _ _ rfl) ?_
  refine q_0 ?_
  refine q_0 ?_
  refine q_42 _ rfl (by decide) rfl (by show _ < 33; omega) (by decide) ?_
  refine q_5 rfl ?_
  refine q_0 ?_
  refine q_34 rfl (by decide) ?_
  refine q_5 rfl ?_
  refine q_47 (mj_ev_mono _) [] rfl rfl rfl (by decide) rfl rfl rfl ?_
  refine s_172 (j := 0) (b := A.tp) (n := N) hP ⟨fun i hi => h6 i (by omega), by omega, rfl⟩ rfl (fun I1 L1 e1 eL1 hT1 => ?_)
  refine lp 701 0 NR0 [] I1 L1 _ (by omega) ?_ eL1 ?_ ⟨⟨e1 73 11 rfl, e1 73 12 rfl⟩, hT1⟩ ⟨e1 73 22 rfl, fun p hp => absurd hp (Nat.not_lt_zero _), e1 85 0 rfl, e1 73 23 rfl, e1 73 24 rfl, e1 73 25 rfl, fun i v hv => by cases hv⟩ NR0_ok (by omega) (Nat.zero_le _) (e1 73 10 rfl) (e1 73 0 rfl) rfl
  · exact (((((((((((Eqf.rf.up rfl).up rfl).up rfl).up rfl).up rfl).up rfl).up rfl).up rfl).up rfl).up rfl).up rfl).tr (e1.to rfl rfl)
  · exact ⟨fun i hi => ⟨(e1 79 i rfl).trans (h6 i (by omega)).1, (h6 i (by omega)).2⟩, by omega, e1 73 14 rfl⟩
theorem s_195F {x : Int32} (hS : MS A I L) (hx : x < 0 ∨ nI A.td < x) (k : kM Q I L P 1 (.int (nI 0))) : mj_ev (d + 12) 195 [.ref 73, .int x] (107, I, L, P) Q := by
  refine ⟨rfl, ?_⟩
  have h4 : I0 I 73 10 = nI A.td := hS.i0.2.2.2.1
  have ht := hS.2.2.2.2.1
  show mj_run (mj_ev (d + 11)) k195 Q (k195 0) [some (.ref 73), some (.int x), none] [] (107, I, L, P) 0 0
  by_cases h0 : x < 0
  · refine q_5 rfl ?_
    refine q_0 ?_
    refine q_34 rfl (by decide) ?_
    refine q_5 rfl ?_
    refine q_3 rfl ?_
    refine q_ltI0 (fun _ => ?_) (fun z => absurd h0 z)
    refine q_0 ?_
    refine q_0 ?_
    refine q_47 (mj_ev_mono _) [_, _] rfl rfl rfl (by decide) rfl rfl rfl ?_
    refine s_163F (x := 1) rfl (by omega) (by omega) ?_
    first | refine q_neN0 (by omega) (fun hh => absurd hh (by omega)) (fun hh => ?_) | refine q_neI0 (fun hh => absurd hh (by omega)) (fun hh => ?_)
    refine q_0 ?_
    refine q_26 ?_
    exact k.bad
  · have h1 : nI A.td < x := hx.resolve_left h0
    refine q_5 rfl ?_
    refine q_0 ?_
    refine q_34 rfl (by decide) ?_
    refine q_5 rfl ?_
    refine q_3 rfl ?_
    refine q_ltI0 (fun z => absurd z h0) (fun _ => ?_)
    refine q_3 rfl ?_
    refine q_5 rfl ?_
    first | refine q_31E rfl (by decide) h4 ?_ | refine q_31 rfl (by decide) ?_
    refine q_gtI (fun _ => ?_) (fun z => absurd h1 z)
    refine q_0 ?_
    refine q_0 ?_
    refine q_47 (mj_ev_mono _) [_, _] rfl rfl rfl (by decide) rfl rfl rfl ?_
    refine s_163F (x := 1) rfl (by omega) (by omega) ?_
    first | refine q_neN0 (by omega) (fun hh => absurd hh (by omega)) (fun hh => ?_) | refine q_neI0 (fun hh => absurd hh (by omega)) (fun hh => ?_)
    refine q_0 ?_
    refine q_26 ?_
    exact k.bad
end M
