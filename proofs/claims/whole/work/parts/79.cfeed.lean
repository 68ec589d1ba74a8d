/-! the class: the tape -/
theorem sb8 (y : Int32) : y.toInt8.toInt32 = sbt (y.toBitVec.toNat % 256) := by
  apply Int32.toInt_inj.mp
  rw [Int8.toInt_toInt32, Int32.toInt_toInt8]
  have h1 : y.toInt = y.toBitVec.toInt := rfl
  have h2 := y.toBitVec.isLt
  rw [h1, BitVec.toInt_eq_toNat_cond]
  generalize y.toBitVec.toNat = u at *
  have h3 : (if 2 * u < 2 ^ 32 then (u : Int) else (u : Int) - ((2 ^ 32 : Nat) : Int)) % 256 = ((u % 256 : Nat) : Int) := by
    split <;> omega
  unfold sbt
  rw [Int.bmod_def]
  have e8 : ((2 ^ 8 : Nat) : Int) = 256 := rfl
  rw [e8, h3]
  have h4 : u % 256 < 256 := Nat.mod_lt _ (by decide)
  by_cases q : u % 256 < 128
  · rw [if_pos q, nI_toInt (by omega), if_pos (by omega)]
  · rw [if_neg q, pk_sub_toInt (by omega) (by omega), if_neg (by omega)]
    rfl
section C
variable {I : mj_I} {L : mj_L} {P : mj_P} {Q : mj_Q} {d n r t a b : Nat} {A : AS} {w : WT} {c h : Nat → Nat} {m : MM}
theorem CS.lay {I' : mj_I} {x : Int32} (hS : CS A I) (E : Eqf (frm [1] [(0, 1)]) I I') (g1 : I' 0 1 = nI (A.td + 4)) (h700 : A.td + 4 ≤ 700) (g2 : ∀ j, j < A.td → I' 1 j = I 1 j) (g3 : ∀ j, j < 4 → I' 1 (A.td + j) = sbt (byt x (24 - 8 * j))) : CS (A.lay x) I' := by
  obtain ⟨hB, hO, hK, hU, hZ, hD⟩ := hS
  refine ⟨?_, hO.fr (E 48 4 rfl) (funext fun j => E 49 j rfl), hK.fr (E 51 4 rfl) (funext fun j => E 52 j rfl), hU.fr (E 55 1 rfl) (funext fun j => E 56 j rfl) (funext fun j => E 57 j rfl) (fun k h1 h8 hk => ⟨k, h1, h8, (E 48 4 rfl).trans hk⟩), hZ.fr (E 60 1 rfl) (E 60 2 rfl) (funext fun j => E 62 j rfl) (funext fun j => E 63 j rfl), hD.fr (fun j => E 65 j rfl) (funext fun j => E 66 j rfl)⟩
  obtain ⟨h1, h2, h3, h4, h5, h6, h7, h8, h9⟩ := hB
  refine ⟨h1.fr E ⟨rfl, rfl, rfl, rfl, rfl, rfl⟩ (fun _ => rfl) (fun _ _ => ⟨rfl, rfl, rfl, rfl⟩), h2.fr (fun j _ => E 30 j rfl) (E 31 0 rfl) (funext fun j => E 32 j rfl) (funext fun j => E 33 j rfl) (funext fun j => E 34 j rfl) (funext fun j => E 35 j rfl) (funext fun j => E 36 j rfl) (funext fun j => E 37 j rfl) (funext fun j => E 38 j rfl), ?_, g1, h700, fun j hj => ?_, (E 0 2 rfl).trans h7, h8, fun j hj => (E 2 j rfl).trans (h9 j hj)⟩
  · show (match A.kp with
      | none => I' 0 9 = nI 0
      | some i => I' 0 9 = nI 1 ∧ CI A.w.n 39 40 41 42 43 44 45 46 47 i I')
    cases hk : A.kp with
    | none =>
      rw [hk] at h3
      exact (E 0 9 rfl).trans h3
    | some i =>
      rw [hk] at h3
      exact ⟨(E 0 9 rfl).trans h3.1, h3.2.fr (fun j _ => E 39 j rfl) (E 40 0 rfl) (funext fun j => E 41 j rfl) (funext fun j => E 42 j rfl) (funext fun j => E 43 j rfl) (funext fun j => E 44 j rfl) (funext fun j => E 45 j rfl) (funext fun j => E 46 j rfl) (funext fun j => E 47 j rfl)⟩
  · show I' 1 j = sbt (if j < A.td then A.tp j else byt x (24 - 8 * (j - A.td))) ∧ (if j < A.td then A.tp j else byt x (24 - 8 * (j - A.td))) < 256
    have hj' : j < A.td + 4 := hj
    by_cases q : j < A.td
    · rw [if_pos q, g2 j q]
      exact h6 j q
    · rw [if_neg q]
      have := g3 (j - A.td) (by omega)
      rw [show A.td + (j - A.td) = j by omega] at this
      exact ⟨this, Nat.mod_lt _ (by decide)⟩
theorem c_102 {x : Int32} (hP : PS t P) (hS : CS A I) (htd : A.td + 4 ≤ 700) (k : ∀ I', Eqf (frm [1] [(0, 1)]) I I' → CS (A.lay x) I' → Q (.inl none) (107, I', L, P)) : mj_ev (d + 1) 102 [.ref 0, .int x] (107, I, L, P) Q := by
  refine ⟨rfl, ?_⟩
  have h4 : I 0 1 = nI A.td := hS.1.2.2.2.1
  have L4 : ∀ I', Eqf (frm [1] [(0, 1)]) I I' → I' 0 1 = nI (A.td + 4) → (∀ j, j < A.td → I' 1 j = I 1 j) → (∀ j, j < 4 → I' 1 (A.td + j) = sbt (byt x (24 - 8 * j))) → mj_run (mj_ev d) k102 Q (k102 3) [some (.ref 0), some (.int x), some (.int (nI 0 - nI 8))] [] (107, I', L, P) 0 0 := by
    intro I' e g1 g2 g3
    refine q_3 rfl ?_
    refine q_ltI0 (fun hh => ?_) (fun hh => absurd (by decide) hh)
    refine q_25 ?_
    exact k I' e (hS.lay e g1 htd g2 g3)
  have step : ∀ i, i < 4 → (∀ I', Eqf (frm [1] [(0, 1)]) I I' → I' 0 1 = nI (A.td + (i + 1)) → (∀ j, j < A.td → I' 1 j = I 1 j) → (∀ j, j < i + 1 → I' 1 (A.td + j) = sbt (byt x (24 - 8 * j))) → mj_run (mj_ev d) k102 Q (k102 3) [some (.ref 0), some (.int x), some (.int (nI (24 - 8 * i) - nI 8))] [] (107, I', L, P) 0 0) → ∀ I', Eqf (frm [1] [(0, 1)]) I I' → I' 0 1 = nI (A.td + i) → (∀ j, j < A.td → I' 1 j = I 1 j) → (∀ j, j < i → I' 1 (A.td + j) = sbt (byt x (24 - 8 * j))) → mj_run (mj_ev d) k102 Q (k102 3) [some (.ref 0), some (.int x), some (.int (nI (24 - 8 * i)))] [] (107, I', L, P) 0 0 := by
    intro i hi K I' e g1 g2 g3
    have g1b : ∀ v, mj_upI I' 1 (A.td + i) v 0 1 = nI (A.td + i) := fun v => g1
    refine q_3 rfl ?_
    first | refine q_ltN0 (by omega) ?_ | refine q_ltI0 (fun hh => absurd hh (by omega)) (fun hh => ?_)
    refine q_5 rfl ?_
    first | refine q_31E rfl (by decide) g1 ?_ | refine q_31E rfl (by decide) (g1b _) ?_ | refine q_31 rfl (by decide) ?_
    refine q_0 ?_
    refine q_geN (by omega) (by omega) (fun hh => absurd hh (by omega)) (fun hh => ?_)
    refine q_5 rfl ?_
    refine q_33 rfl (by decide) (hP _ _ _ rfl) ?_
    refine q_5 rfl ?_
    first | refine q_31E rfl (by decide) g1 ?_ | refine q_31E rfl (by decide) (g1b _) ?_ | refine q_31 rfl (by decide) ?_
    refine q_3 rfl ?_
    refine q_3 rfl ?_
    refine q_11 rfl ?_
    refine q_12 rfl ?_
    refine q_44 _ rfl (by decide) rfl (by show _ < 700; omega) (by decide) ?_
    refine q_5 rfl ?_
    refine q_18 rfl ?_
    first | refine q_31E rfl (by decide) g1 ?_ | refine q_31E rfl (by decide) (g1b _) ?_ | refine q_31 rfl (by decide) ?_
    refine q_0 ?_
    first | refine q_add ?_ | refine q_11 rfl ?_
    refine q_34 rfl (by decide) ?_
    refine q_10 rfl rfl rfl ?_
    refine q_23 ?_
    refine K _ ((e.up rfl).up rfl) (by rw [← Nat.add_assoc]; exact upI_s) (fun j hj => ?_) (fun j hj => ?_)
    · rw [upI_c (by decide), upI_j (by omega)]
      exact g2 j hj
    · rw [upI_c (by decide)]
      by_cases q : j = i
      · subst q
        rw [upI_s, pk_vb]
        exact sb8 _
      · rw [upI_j (by omega)]
        exact g3 j (by omega)
  have L3 := step 3 (by omega) L4
  have L2 := step 2 (by omega) L3
  have L1 := step 1 (by omega) L2
  have L0 := step 0 (by omega) L1
  show mj_run (mj_ev d) k102 Q (k102 0) [some (.ref 0), some (.int x), none] [] (107, I, L, P) 0 0
  refine q_0 ?_
  refine q_6 rfl rfl rfl ?_
  exact L0 I Eqf.rf h4 (fun _ _ => rfl) (fun j hj => absurd hj (by omega))
theorem c_101 {x1 x2 x3 x4 x5 : Int32} (hP : PS t P) (hS : CS A I) (htd : A.td ≤ 680) (k : kC Q I L P (((((A.lay x1).lay x2).lay x3).lay x4).lay x5) (.inl (some (.int (nI (A.td + 20)))))) : mj_ev (d + 12) 101 [.ref 0, .int x1, .int x2, .int x3, .int x4, .int x5] (107, I, L, P) Q := by
  refine ⟨rfl, ?_⟩
  have h4 : I 0 1 = nI A.td := hS.1.2.2.2.1
  show mj_run (mj_ev (d + 11)) k101 Q (k101 0) [some (.ref 0), some (.int x1), some (.int x2), some (.int x3), some (.int x4), some (.int x5)] [] (107, I, L, P) 0 0
  refine q_5 rfl ?_
  first | refine q_31E rfl (by decide) h4 ?_ | refine q_31E rfl (by decide) hfin ?_ | refine q_31 rfl (by decide) ?_
  refine q_0 ?_
  refine q_leN (by omega) (by omega) (fun hh => ?_) (fun hh => absurd hh (by omega))
  refine q_5 rfl ?_
  refine q_3 rfl ?_
  refine q_47 (mj_ev_mono _) [_] rfl rfl rfl (by decide) rfl rfl rfl ?_
  refine c_102 hP hS (by omega) (fun I1 e1 hS1 => ?_)
  refine q_5 rfl ?_
  refine q_3 rfl ?_
  refine q_47 (mj_ev_mono _) [_] rfl rfl rfl (by decide) rfl rfl rfl ?_
  refine c_102 hP hS1 (show A.td + 4 + 4 ≤ 700 by omega) (fun I2 e2 hS2 => ?_)
  refine q_5 rfl ?_
  refine q_3 rfl ?_
  refine q_47 (mj_ev_mono _) [_] rfl rfl rfl (by decide) rfl rfl rfl ?_
  refine c_102 hP hS2 (show A.td + 4 + 4 + 4 ≤ 700 by omega) (fun I3 e3 hS3 => ?_)
  refine q_5 rfl ?_
  refine q_3 rfl ?_
  refine q_47 (mj_ev_mono _) [_] rfl rfl rfl (by decide) rfl rfl rfl ?_
  refine c_102 hP hS3 (show A.td + 4 + 4 + 4 + 4 ≤ 700 by omega) (fun I4 e4 hS4 => ?_)
  refine q_5 rfl ?_
  refine q_3 rfl ?_
  refine q_47 (mj_ev_mono _) [_] rfl rfl rfl (by decide) rfl rfl rfl ?_
  refine c_102 hP hS4 (show A.td + 4 + 4 + 4 + 4 + 4 ≤ 700 by omega) (fun I5 e5 hS5 => ?_)
  have hfin : I5 0 1 = nI (A.td + 20) := hS5.1.2.2.2.1
  refine q_5 rfl ?_
  first | refine q_31E rfl (by decide) h4 ?_ | refine q_31E rfl (by decide) hfin ?_ | refine q_31 rfl (by decide) ?_
  refine q_26 ?_
  exact k.fm ((((e1.tr e2).tr e3).tr e4).tr e5) hS5 rfl rfl
theorem c_101F {x1 x2 x3 x4 x5 : Int32} (hS : CS A I) (htd : 680 < A.td) (k : kC Q I L P A (.inl (some (.int (-(nI 1)))))) : mj_ev (d + 12) 101 [.ref 0, .int x1, .int x2, .int x3, .int x4, .int x5] (107, I, L, P) Q := by
  refine ⟨rfl, ?_⟩
  have h4 : I 0 1 = nI A.td := hS.1.2.2.2.1
  have h7 : A.td ≤ 700 := hS.1.2.2.2.2.1
  show mj_run (mj_ev (d + 11)) k101 Q (k101 0) [some (.ref 0), some (.int x1), some (.int x2), some (.int x3), some (.int x4), some (.int x5)] [] (107, I, L, P) 0 0
  refine q_5 rfl ?_
  first | refine q_31E rfl (by decide) h4 ?_ | refine q_31 rfl (by decide) ?_
  refine q_0 ?_
  refine q_leN (by omega) (by omega) (fun hh => absurd hh (by omega)) (fun hh => ?_)
  refine q_1 ?_
  refine q_26 ?_
  exact k.same hS rfl
end C
