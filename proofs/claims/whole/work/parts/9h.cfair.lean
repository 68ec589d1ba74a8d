/-! the class reads a text: fair -/
section C
variable {I : mj_I} {L : mj_L} {P : mj_P} {Q : mj_Q} {d n t : Nat} {W : NR} {R0 : RP} {A : AS}
theorem rdr_l {N : Nat} {e : Nat × Nat} (h : (rdS A.tp N).1 = .inl e) : A.read N = (A.flt (tB A.tp N e.2), e.1) := by
  unfold AS.read AS.rdr
  rw [h]
theorem rdr_r {N j : Nat} (h : (rdS A.tp N).1 = .inr j) : A.read N = (A.told (rdS A.tp N).2, 0) := by
  unfold AS.read AS.rdr
  rw [h]
def frP : List (Nat × Nat) := [(0, 1), (0, 2), (16, 0), (21, 0), (25, 1), (25, 2), (25, 3), (25, 4), (25, 5), (25, 6), (29, 10), (29, 3), (29, 0), (29, 9), (29, 4), (29, 5), (29, 6), (29, 7), (29, 8)]
def fcP : List Nat := [2, 17, 18, 19, 20, 22, 23, 24, 27]
theorem CS.flt {I' : mj_I} {p : Nat} (hS : CS A I) (E : Eqf (frm fcP frP) I I') (g1 : I' 0 1 = nI 0) (g2 : I' 0 2 = nI p) (hp : p ≤ 700) (g3 : ∀ j, j < 3 → I' 2 j = if j = 0 then A.rf j + nI 1 else A.rf j) : CS (A.flt p) I' := by
  obtain ⟨hB, hO, hK, hU, hZ, hD⟩ := hS
  refine ⟨?_, hO.fr (E 48 4 rfl) (funext fun j => E 49 j rfl), hK.fr (E 51 4 rfl) (funext fun j => E 52 j rfl), hU.fr (E 55 1 rfl) (funext fun j => E 56 j rfl) (funext fun j => E 57 j rfl) (fun k h1 h8 hk => ⟨k, h1, h8, (E 48 4 rfl).trans hk⟩), hZ.fr (E 60 1 rfl) (E 60 2 rfl) (funext fun j => E 62 j rfl) (funext fun j => E 63 j rfl), hD.fr (fun j => E 65 j rfl) (funext fun j => E 66 j rfl)⟩
  obtain ⟨h1, h2, h3, h4, h5, h6, h7, h8, h9⟩ := hB
  refine ⟨h1.fr E ⟨rfl, rfl, rfl, rfl, rfl, rfl⟩ (fun _ => rfl) (fun _ _ => ⟨rfl, rfl, rfl, rfl⟩), h2.fr (fun j _ => E 30 j rfl) (E 31 0 rfl) (funext fun j => E 32 j rfl) (funext fun j => E 33 j rfl) (funext fun j => E 34 j rfl) (funext fun j => E 35 j rfl) (funext fun j => E 36 j rfl) (funext fun j => E 37 j rfl) (funext fun j => E 38 j rfl), ?_, g1, Nat.zero_le _, fun j hj => absurd hj (Nat.not_lt_zero _), g2, fun q hq => (by cases hq; exact hp), g3⟩
  show (match A.kp with
      | none => I' 0 9 = nI 0
      | some i => I' 0 9 = nI 1 ∧ CI A.w.n 39 40 41 42 43 44 45 46 47 i I')
  cases hk : A.kp with
  | none =>
    rw [hk] at h3
    exact (E 0 9 rfl).trans h3
  | some i =>
    rw [hk] at h3
    exact ⟨(E 0 9 rfl).trans h3.1, h3.2.fr (fun j _ => E 39 j rfl) (E 40 0 rfl) (funext fun j => E 41 j rfl) (funext fun j => E 42 j rfl) (funext fun j => E 43 j rfl) (funext fun j => E 44 j rfl) (funext fun j => E 45 j rfl) (funext fun j => E 46 j rfl) (funext fun j => E 47 j rfl)⟩
theorem frm_hx {cs : List Nat} {fs : List (Nat × Nat)} {c j : Nat} (h1 : cs.all (fun q => Nat.blt q 73) = true) (h2 : fs.all (fun q => Nat.blt q.1 73) = true) (hc : 73 ≤ c) : frm cs fs c j = false := by
  rw [← Bool.not_eq_true]
  intro e
  unfold frm at e
  rw [Bool.or_eq_true] at e
  rcases e with h3 | h3
  · obtain ⟨q, hq, e3⟩ := List.any_eq_true.mp h3
    have : q < 73 := Nat.le_of_ble_eq_true (List.all_eq_true.mp h1 q hq)
    have := eq_of_beq e3
    omega
  · obtain ⟨q, hq, e3⟩ := List.any_eq_true.mp h3
    rw [Bool.and_eq_true] at e3
    have : q.1 < 73 := Nat.le_of_ble_eq_true (List.all_eq_true.mp h2 q hq)
    have := eq_of_beq e3.1
    omega
set_option maxHeartbeats 1000000 in
theorem c_103 {N : Nat} (hP : PS t P) (hS : CS A I) (hN : N ≤ A.td) (k : ∀ I' P' t', PS t' P' → CS (A.read N).1 I' → (∀ c j, 73 ≤ c → I' c j = I c j) → Q (.inl (some (.int (nI (A.read N).2)))) (107, I', L, P')) : mj_ev (d + 63) 103 [.ref 0, .int (nI N)] (107, I, L, P) Q := by
  refine ⟨rfl, ?_⟩
  show mj_run (mj_ev (d + 62)) k103 Q (k103 0) [some (.ref 0), some (.int (nI N)), none] [] (107, I, L, P) 1 6
  have hS' := hS
  obtain ⟨⟨h1, h2, h3, h4, h5, h6, h7, h8, h9⟩, hO, hK, hU, hZ, hD⟩ := hS
  have hb : ∀ i, i < N → mj_upI I 0 1 (nI 0) 1 i = sbt (A.tp i) ∧ A.tp i < 256 := fun i hi => h6 i (by omega)
  cases hr : (rdS A.tp N).1 with
  | inl e =>
    rw [rdr_l hr] at k
    refine q_3 rfl ?_
    first | refine q_ltN0 (by omega) ?_ | refine q_ltI0 (fun hh => absurd hh (by omega)) (fun hh => ?_)
    refine q_3 rfl ?_
    refine q_5 rfl ?_
    first | refine q_31E rfl (by decide) h4 ?_ | refine q_31 rfl (by decide) ?_
    refine q_leN (by omega) (by omega) (fun hh => ?_) (fun hh => absurd hh (by omega))
    refine q_5 rfl ?_
    refine q_0 ?_
    refine q_34 rfl (by decide) ?_
    refine q_5 rfl ?_
    refine q_33 rfl (by decide) (hP _ _ _ rfl) ?_
    refine q_3 rfl ?_
    refine q_5 rfl ?_
    refine q_33 rfl (by decide) (hP _ _ _ rfl) ?_
    refine q_47 (mj_ev_mono _) [_, _] rfl rfl rfl (by decide) rfl rfl rfl ?_
    refine c_37a (b := A.tp) (N := N) (d := d) hP hb (by omega) (fun I1 P1 hP1 E1 hS1 _ => ?_)
    rw [hr] at hS1 ⊢
    rw [show fcS (.inl e) = e.1 from rfl]
    have hP := hP1
    obtain ⟨w1, w2, w3, w4, w5⟩ := hS1
    refine q_6 rfl rfl rfl ?_
    refine q_5 rfl ?_
    refine q_3 rfl ?_
    first | refine q_neN0 (by omega) (fun hh => ?_) (fun hh => absurd hh (by omega)) | refine q_neI0 (fun hh => ?_) (fun hh => absurd (by omega) hh)
    refine q_5 rfl ?_
    refine q_33 rfl (by decide) (hP _ _ _ rfl) ?_
    first | refine q_31E rfl (by decide) w4 ?_ | refine q_31 rfl (by decide) ?_
    refine q_34 rfl (by decide) ?_
    refine q_3 rfl ?_
    first | refine q_eqN0 (by omega) (fun hh => absurd hh (by omega)) (fun hh => ?_) | refine q_eqI0 (fun hh => absurd hh (by omega)) (fun hh => ?_)
    refine q_5 rfl ?_
    refine q_33 rfl (by decide) (hP _ _ _ rfl) ?_
    refine q_0 ?_
    refine q_20 rfl rfl ?_
    refine q_38 _ rfl (by decide) rfl (by show _ < 3; omega) (by decide) ?_
    refine q_0 ?_
    refine q_11 rfl ?_
    refine q_42 _ rfl (by decide) rfl (by show _ < 3; omega) (by decide) ?_
    refine q_3 rfl ?_
    refine q_26 ?_
    refine k _ P1 16 hP1 (hS'.flt (p := tB A.tp N e.2) ?_ (E1 0 1 rfl) rfl ?_ (fun j hj => ?_)) (fun c j hc => ?_)
    · exact (((Eqf.rf.up rfl).tr (E1.to rfl rfl)).up rfl).up rfl
    · have := tB_n (b := A.tp) (n := N) (j := e.2)
      omega
    · have q0 : ∀ j, j < 3 → I1 2 j = A.rf j := fun j hj => (E1 2 j rfl).trans (h9 j hj)
      rw [upI_f]
      by_cases c : j = 0
      · rw [if_pos c, if_pos c, c]
        show I1 2 0 + nI 1 = _
        rw [q0 0 (by omega)]
      · rw [if_neg c, if_neg c]
        exact q0 j hj
    · rw [upI_c (by omega), upI_c (by omega), E1 c j (frm_hx rfl rfl hc), upI_c (by omega)]
  | inr j =>
    rw [rdr_r hr] at k
    refine q_3 rfl ?_
    first | refine q_ltN0 (by omega) ?_ | refine q_ltI0 (fun hh => absurd hh (by omega)) (fun hh => ?_)
    refine q_3 rfl ?_
    refine q_5 rfl ?_
    first | refine q_31E rfl (by decide) h4 ?_ | refine q_31 rfl (by decide) ?_
    refine q_leN (by omega) (by omega) (fun hh => ?_) (fun hh => absurd hh (by omega))
    refine q_5 rfl ?_
    refine q_0 ?_
    refine q_34 rfl (by decide) ?_
    refine q_5 rfl ?_
    refine q_33 rfl (by decide) (hP _ _ _ rfl) ?_
    refine q_3 rfl ?_
    refine q_5 rfl ?_
    refine q_33 rfl (by decide) (hP _ _ _ rfl) ?_
    refine q_47 (mj_ev_mono _) [_, _] rfl rfl rfl (by decide) rfl rfl rfl ?_
    refine c_37a (b := A.tp) (N := N) (d := d) hP hb (by omega) (fun I1 P1 hP1 E1 hS1 _ => ?_)
    rw [hr]
    rw [show fcS (.inr j) = 0 from rfl]
    have hP := hP1
    refine q_6 rfl rfl rfl ?_
    refine q_5 rfl ?_
    refine q_3 rfl ?_
    first | refine q_neN0 (by omega) (fun hh => absurd hh (by omega)) (fun hh => ?_) | refine q_neI0 (fun hh => absurd hh (by omega)) (fun hh => ?_)
    refine q_1 ?_
    refine q_23 ?_
    refine q_34 rfl (by decide) ?_
    refine q_3 rfl ?_
    first | refine q_eqN0 (by omega) (fun hh => ?_) (fun hh => absurd hh (by omega)) | refine q_eqI0 (fun hh => ?_) (fun hh => absurd (by omega) hh)
    refine q_5 rfl ?_
    refine q_33 rfl (by decide) (hP _ _ _ rfl) ?_
    refine q_3 rfl ?_
    refine q_5 rfl ?_
    refine q_33 rfl (by decide) (hP _ _ _ rfl) ?_
    refine q_47 (mj_ev_mono _) [_, _] rfl rfl rfl (by decide) rfl rfl rfl ?_
    refine c_37b (b := A.tp) (N := N) (d := d) hP1 (fun i hi => ⟨(E1 1 i rfl).trans (hb i hi).1, (hb i hi).2⟩) (by omega) ⟨j, hr⟩ (fun I2 P2 hP2 E2 hS2 hM2 => ?_)
    have hP := hP2
    obtain ⟨hW, R0, hM, hl⟩ := hM2 j hr
    refine q_19 rfl ?_
    refine q_5 rfl ?_
    refine q_33 rfl (by decide) (hP _ _ _ rfl) ?_
    refine q_5 rfl ?_
    refine q_33 rfl (by decide) (hP _ _ _ rfl) ?_
    refine q_47 (mj_ev_mono _) [_] rfl rfl rfl (by decide) rfl rfl rfl ?_
    refine c_8 hP2 hM hW (fun I3 e3 hI3 => ?_)
    refine q_5 rfl ?_
    refine q_0 ?_
    refine q_35 rfl (by decide) (by first | exact Or.inl rfl | exact Or.inr rfl | assumption) ?_
    refine q_5 rfl ?_
    refine q_47 (mj_ev_mono _) [] rfl rfl rfl (by decide) rfl rfl rfl ?_
    refine c_157 hP2 ?_
    refine q_0 ?_
    refine q_26 ?_
    have E4 : Eqf (frm [] [(0, 9), (48, 4), (51, 4), (55, 1), (60, 1), (65, 0)]) I3 (uS (mj_upI I3 0 9 (nI 0))) := (Eqf.rf.up rfl).tr (uS_f.to rfl rfl)
    have E5 : Eqf (frm [32, 33, 34] [(31, 0), (30, 1), (30, 2), (30, 3), (0, 9), (48, 4), (51, 4), (55, 1), (60, 1), (65, 0)]) I2 (uS (mj_upI I3 0 9 (nI 0))) := (e3.to rfl rfl).tr (E4.to rfl rfl)
    refine k _ P2 3 hP2 (CS.clr ⟨(MC_T hM hl hW).fr E5 ⟨rfl, rfl, rfl, rfl, rfl, rfl⟩ (fun _ => rfl) (fun _ _ => ⟨rfl, rfl, rfl, rfl⟩), hI3.fr (fun j _ => E4 30 j rfl) (E4 31 0 rfl) (funext fun j => E4 32 j rfl) (funext fun j => E4 33 j rfl) (funext fun j => E4 34 j rfl) (funext fun j => E4 35 j rfl) (funext fun j => E4 36 j rfl) (funext fun j => E4 37 j rfl) (funext fun j => E4 38 j rfl), rfl, (E5 0 1 rfl).trans ((E2 0 1 rfl).trans (E1 0 1 rfl)), Nat.zero_le _, fun j hj => absurd hj (Nat.not_lt_zero _), (E5 0 2 rfl).trans (E2 0 2 rfl), fun q hq => (by cases hq), fun j hj => (E5 2 j rfl).trans ((E2 2 j rfl).trans ((E1 2 j rfl).trans (h9 j hj)))⟩ rfl rfl rfl rfl rfl) (fun c j hc => ?_)
    rw [E5 c j (frm_hx rfl rfl hc), E2 c j (frm_hx rfl rfl hc), upI_c (by omega), E1 c j (frm_hx rfl rfl hc), upI_c (by omega)]
end C
section D
variable {I : mj_I} {L : mj_L} {P : mj_P} {Q : mj_Q} {d n t : Nat} {A : AS}
theorem c_103F {x : Int32} (hS : CS A I) (hx : x < 0 ∨ nI A.td < x) (k : kC Q I L P A (.inr 1)) : mj_ev (d + 12) 103 [.ref 0, .int x] (107, I, L, P) Q := by
  refine ⟨rfl, ?_⟩
  have h4 : I 0 1 = nI A.td := hS.1.2.2.2.1
  show mj_run (mj_ev (d + 11)) k103 Q (k103 0) [some (.ref 0), some (.int x), none] [] (107, I, L, P) 1 6
  by_cases h0 : x < 0
  · refine q_3 rfl ?_
    refine q_ltI0 (fun _ => ?_) (fun z => absurd h0 z)
    refine q_30 rfl rfl rfl rfl ?_
    exact k.same hS rfl
  · have h1 : nI A.td < x := hx.resolve_left h0
    refine q_3 rfl ?_
    refine q_ltI0 (fun z => absurd z h0) (fun _ => ?_)
    refine q_3 rfl ?_
    refine q_5 rfl ?_
    first | refine q_31E rfl (by decide) h4 ?_ | refine q_31 rfl (by decide) ?_
    refine q_leI (fun z => absurd z (Int32.not_le.mpr h1)) (fun _ => ?_)
    refine q_30 rfl rfl rfl rfl ?_
    exact k.same hS rfl
end D
