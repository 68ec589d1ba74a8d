/-! the model: games, rings, steps, generations -/
section M
variable {I : mj_I} {L : mj_L} {P : mj_P} {Q : mj_Q} {d n r t a b : Nat} {A : AS} {w : WT} {c h : Nat → Nat} {m : MM}
theorem s_271 {x y : Nat} (hP : PS t P) (hW : MT w I) (hR : RW w.n 0 c h m I) (ha : a < w.n) (hb : b < w.n) (hx : x ≤ 1) (hy : y ≤ 1) (k : ∀ I', Eqf (frm [91, 92] []) I I' → Q (.inl (some (.int (gns w c h a b x y)))) (107, I', L, P)) : mj_ev (d + 4) 271 [.ref 73, .int (nI a), .int (nI b), .int (nI x), .int (nI y)] (107, I, L, P) Q := by
  refine ⟨rfl, ?_⟩
  obtain ⟨hw0, hn, hW2, hW3, hW4⟩ := hW
  have hn10 := hw0.1
  obtain ⟨e1, e2, e3, -⟩ := hW2 a ha
  obtain ⟨f1, f2, f3, -⟩ := hW2 b hb
  obtain ⟨z1, z2, z3, z4, -⟩ := hw0.2.1 a ha
  obtain ⟨y1, y2, y3, y4, -⟩ := hw0.2.1 b hb
  have hca := hR.c10 ha
  have hcb := hR.c10 hb
  have hha := hR.h10 ha
  have hhb := hR.h10 hb
  have g1 := hR.hol0 ha
  have g2 := hR.hol0 hb
  show mj_run (mj_ev (d + 3)) k271 Q (k271 0) [some (.ref 73), some (.int (nI a)), some (.int (nI b)), some (.int (nI x)), some (.int (nI y)), none] [] (107, I, L, P) 0 0
  obtain ⟨rfl | rfl, rfl | rfl⟩ : (x = 0 ∨ x = 1) ∧ (y = 0 ∨ y = 1) := by omega
  · refine q_5 rfl ?_
    refine q_0 ?_
    refine q_3 rfl ?_
    refine q_3 rfl ?_
    refine q_3 rfl ?_
    refine q_0 ?_
    refine q_neN (by omega) (by omega) (fun hh => ?_) (fun hh => absurd hh (by omega))
    refine q_5 rfl ?_
    refine q_33 rfl (by decide) (hP _ _ _ rfl) ?_
    refine q_0 ?_
    refine q_3 rfl ?_
    first | refine q_add ?_ | refine q_11 rfl ?_
    first | refine q_38E _ rfl (by decide) rfl (by show _ < 66; omega) (by decide) (g1) ?_ | refine q_38E _ rfl (by decide) rfl (by show _ < 66; omega) (by decide) (g2) ?_ | refine q_38E _ rfl (by decide) rfl (by show _ < 66; omega) (by decide) (g3) ?_ | refine q_38 _ rfl (by decide) rfl (by show _ < 66; omega) (by decide) ?_
    refine q_3 rfl ?_
    refine q_0 ?_
    refine q_neN (by omega) (by omega) (fun hh => ?_) (fun hh => absurd hh (by omega))
    refine q_5 rfl ?_
    refine q_33 rfl (by decide) (hP _ _ _ rfl) ?_
    refine q_0 ?_
    refine q_3 rfl ?_
    first | refine q_add ?_ | refine q_11 rfl ?_
    first | refine q_38E _ rfl (by decide) rfl (by show _ < 66; omega) (by decide) (g1) ?_ | refine q_38E _ rfl (by decide) rfl (by show _ < 66; omega) (by decide) (g2) ?_ | refine q_38E _ rfl (by decide) rfl (by show _ < 66; omega) (by decide) (g3) ?_ | refine q_38 _ rfl (by decide) rfl (by show _ < 66; omega) (by decide) ?_
    refine q_47 (mj_ev_mono _) [_, _, _, _, _] rfl rfl rfl (by decide) rfl rfl rfl ?_
    refine s_204 hP (by omega) (by omega) (by omega) hW3 e1 e2 e3 (hR.col ha) f1 f2 f3 (hR.col hb) (by omega) (by omega) (fun I1 q1 => ?_)
    have g3 : I1 89 (12 + b) = nI (h b) := (q1 89 _ rfl).trans g2
    refine q_6 rfl rfl rfl ?_
    refine q_3 rfl ?_
    first | refine q_d21_5Nn (J := 57) (by omega) (fun j => q_0 (j)) (fun j => q_3 rfl (q_23 (j))) ?_ | refine q_d21_5Ni (J := 57) (by omega) (fun j => q_0 (j)) (fun j => q_3 rfl (q_23 (j))) ?_ | refine q_d21_5In (J := 57) (fun j => q_0 (j)) (fun j => q_3 rfl (q_23 (j))) ?_ | refine q_d21_5Ii (J := 57) (fun j => q_0 (j)) (fun j => q_3 rfl (q_23 (j))) ?_
    refine q_3 rfl ?_
    refine q_0 ?_
    refine q_neN (by omega) (by omega) (fun hh => ?_) (fun hh => absurd hh (by omega))
    refine q_0 ?_
    refine q_11 rfl ?_
    refine q_3 rfl ?_
    refine q_11 rfl ?_
    refine q_26 ?_
    exact k I1 q1
  · refine q_5 rfl ?_
    refine q_0 ?_
    refine q_3 rfl ?_
    refine q_3 rfl ?_
    refine q_3 rfl ?_
    refine q_0 ?_
    refine q_neN (by omega) (by omega) (fun hh => ?_) (fun hh => absurd hh (by omega))
    refine q_5 rfl ?_
    refine q_33 rfl (by decide) (hP _ _ _ rfl) ?_
    refine q_0 ?_
    refine q_3 rfl ?_
    first | refine q_add ?_ | refine q_11 rfl ?_
    first | refine q_38E _ rfl (by decide) rfl (by show _ < 66; omega) (by decide) (g1) ?_ | refine q_38E _ rfl (by decide) rfl (by show _ < 66; omega) (by decide) (g2) ?_ | refine q_38E _ rfl (by decide) rfl (by show _ < 66; omega) (by decide) (g3) ?_ | refine q_38 _ rfl (by decide) rfl (by show _ < 66; omega) (by decide) ?_
    refine q_3 rfl ?_
    refine q_0 ?_
    refine q_neN (by omega) (by omega) (fun hh => absurd hh (by omega)) (fun hh => ?_)
    refine q_0 ?_
    refine q_23 ?_
    refine q_47 (mj_ev_mono _) [_, _, _, _, _] rfl rfl rfl (by decide) rfl rfl rfl ?_
    refine s_204 hP (by omega) (by omega) (by omega) hW3 e1 e2 e3 (hR.col ha) f1 f2 f3 (hR.col hb) (by omega) (by omega) (fun I1 q1 => ?_)
    have g3 : I1 89 (12 + b) = nI (h b) := (q1 89 _ rfl).trans g2
    refine q_6 rfl rfl rfl ?_
    refine q_3 rfl ?_
    first | refine q_d21_5Nn (J := 57) (by omega) (fun j => q_0 (j)) (fun j => q_3 rfl (q_23 (j))) ?_ | refine q_d21_5Ni (J := 57) (by omega) (fun j => q_0 (j)) (fun j => q_3 rfl (q_23 (j))) ?_ | refine q_d21_5In (J := 57) (fun j => q_0 (j)) (fun j => q_3 rfl (q_23 (j))) ?_ | refine q_d21_5Ii (J := 57) (fun j => q_0 (j)) (fun j => q_3 rfl (q_23 (j))) ?_
    refine q_3 rfl ?_
    refine q_0 ?_
    refine q_neN (by omega) (by omega) (fun hh => absurd hh (by omega)) (fun hh => ?_)
    refine q_5 rfl ?_
    refine q_33 rfl (by decide) (hP _ _ _ rfl) ?_
    refine q_0 ?_
    refine q_3 rfl ?_
    first | refine q_add ?_ | refine q_11 rfl ?_
    first | refine q_38E _ rfl (by decide) rfl (by show _ < 66; omega) (by decide) (g1) ?_ | refine q_38E _ rfl (by decide) rfl (by show _ < 66; omega) (by decide) (g2) ?_ | refine q_38E _ rfl (by decide) rfl (by show _ < 66; omega) (by decide) (g3) ?_ | refine q_38 _ rfl (by decide) rfl (by show _ < 66; omega) (by decide) ?_
    refine q_0 ?_
    first | refine q_divN (by omega) (by omega) (by omega) ?_ | refine q_div (by assumption) ?_
    refine q_23 ?_
    refine q_11 rfl ?_
    refine q_3 rfl ?_
    refine q_11 rfl ?_
    refine q_26 ?_
    exact k I1 q1
  · refine q_5 rfl ?_
    refine q_0 ?_
    refine q_3 rfl ?_
    refine q_3 rfl ?_
    refine q_3 rfl ?_
    refine q_0 ?_
    refine q_neN (by omega) (by omega) (fun hh => absurd hh (by omega)) (fun hh => ?_)
    refine q_0 ?_
    refine q_23 ?_
    refine q_3 rfl ?_
    refine q_0 ?_
    refine q_neN (by omega) (by omega) (fun hh => ?_) (fun hh => absurd hh (by omega))
    refine q_5 rfl ?_
    refine q_33 rfl (by decide) (hP _ _ _ rfl) ?_
    refine q_0 ?_
    refine q_3 rfl ?_
    first | refine q_add ?_ | refine q_11 rfl ?_
    first | refine q_38E _ rfl (by decide) rfl (by show _ < 66; omega) (by decide) (g1) ?_ | refine q_38E _ rfl (by decide) rfl (by show _ < 66; omega) (by decide) (g2) ?_ | refine q_38E _ rfl (by decide) rfl (by show _ < 66; omega) (by decide) (g3) ?_ | refine q_38 _ rfl (by decide) rfl (by show _ < 66; omega) (by decide) ?_
    refine q_47 (mj_ev_mono _) [_, _, _, _, _] rfl rfl rfl (by decide) rfl rfl rfl ?_
    refine s_204 hP (by omega) (by omega) (by omega) hW3 e1 e2 e3 (hR.col ha) f1 f2 f3 (hR.col hb) (by omega) (by omega) (fun I1 q1 => ?_)
    have g3 : I1 89 (12 + b) = nI (h b) := (q1 89 _ rfl).trans g2
    refine q_6 rfl rfl rfl ?_
    refine q_3 rfl ?_
    first | refine q_d21_5Nn (J := 57) (by omega) (fun j => q_0 (j)) (fun j => q_3 rfl (q_23 (j))) ?_ | refine q_d21_5Ni (J := 57) (by omega) (fun j => q_0 (j)) (fun j => q_3 rfl (q_23 (j))) ?_ | refine q_d21_5In (J := 57) (fun j => q_0 (j)) (fun j => q_3 rfl (q_23 (j))) ?_ | refine q_d21_5Ii (J := 57) (fun j => q_0 (j)) (fun j => q_3 rfl (q_23 (j))) ?_
    refine q_3 rfl ?_
    refine q_0 ?_
    refine q_neN (by omega) (by omega) (fun hh => ?_) (fun hh => absurd hh (by omega))
    refine q_0 ?_
    refine q_11 rfl ?_
    refine q_3 rfl ?_
    refine q_11 rfl ?_
    refine q_26 ?_
    exact k I1 q1
  · refine q_5 rfl ?_
    refine q_0 ?_
    refine q_3 rfl ?_
    refine q_3 rfl ?_
    refine q_3 rfl ?_
    refine q_0 ?_
    refine q_neN (by omega) (by omega) (fun hh => absurd hh (by omega)) (fun hh => ?_)
    refine q_0 ?_
    refine q_23 ?_
    refine q_3 rfl ?_
    refine q_0 ?_
    refine q_neN (by omega) (by omega) (fun hh => absurd hh (by omega)) (fun hh => ?_)
    refine q_0 ?_
    refine q_23 ?_
    refine q_47 (mj_ev_mono _) [_, _, _, _, _] rfl rfl rfl (by decide) rfl rfl rfl ?_
    refine s_204 hP (by omega) (by omega) (by omega) hW3 e1 e2 e3 (hR.col ha) f1 f2 f3 (hR.col hb) (by omega) (by omega) (fun I1 q1 => ?_)
    have g3 : I1 89 (12 + b) = nI (h b) := (q1 89 _ rfl).trans g2
    refine q_6 rfl rfl rfl ?_
    refine q_3 rfl ?_
    first | refine q_d21_5Nn (J := 57) (by omega) (fun j => q_0 (j)) (fun j => q_3 rfl (q_23 (j))) ?_ | refine q_d21_5Ni (J := 57) (by omega) (fun j => q_0 (j)) (fun j => q_3 rfl (q_23 (j))) ?_ | refine q_d21_5In (J := 57) (fun j => q_0 (j)) (fun j => q_3 rfl (q_23 (j))) ?_ | refine q_d21_5Ii (J := 57) (fun j => q_0 (j)) (fun j => q_3 rfl (q_23 (j))) ?_
    refine q_3 rfl ?_
    refine q_0 ?_
    refine q_neN (by omega) (by omega) (fun hh => absurd hh (by omega)) (fun hh => ?_)
    refine q_5 rfl ?_
    refine q_33 rfl (by decide) (hP _ _ _ rfl) ?_
    refine q_0 ?_
    refine q_3 rfl ?_
    first | refine q_add ?_ | refine q_11 rfl ?_
    first | refine q_38E _ rfl (by decide) rfl (by show _ < 66; omega) (by decide) (g1) ?_ | refine q_38E _ rfl (by decide) rfl (by show _ < 66; omega) (by decide) (g2) ?_ | refine q_38E _ rfl (by decide) rfl (by show _ < 66; omega) (by decide) (g3) ?_ | refine q_38 _ rfl (by decide) rfl (by show _ < 66; omega) (by decide) ?_
    refine q_0 ?_
    first | refine q_divN (by omega) (by omega) (by omega) ?_ | refine q_div (by assumption) ?_
    refine q_23 ?_
    refine q_11 rfl ?_
    refine q_3 rfl ?_
    refine q_11 rfl ?_
    refine q_26 ?_
    exact k I1 q1
theorem s_272 {x : Nat} (hP : PS t P) (hS : MS A I L) (ha : a < A.w.n) (hb : b < A.w.n) (hab : a ≠ b) (hx : x ≤ 1) (k : kM Q I L P 0 (.int (sGame A.w A.c A.h a b x))) : mj_ev (d + 12) 272 [.ref 73, .int (nI a), .int (nI b), .int (nI x)] (107, I, L, P) Q := by
  refine ⟨rfl, ?_⟩
  have hS0 := hS.i0
  have hn10 := hS.n10
  have L59 : ∀ i, i ≤ 4 → ∀ I' x7 x8, Eqf (frm [91, 92] []) (I0 I) I' → mj_run (mj_ev (d + 11)) k272 Q (k272 59) [some (.ref 73), some (.int (nI a)), some (.int (nI b)), some (.int (nI x)), some (.int (nI (cntF (gmp A.w A.c A.h a b) i))), some (.int (mI ((fnd i 0 (gmp A.w A.c A.h a b)).map (fun k => 10 * (k / 2) + k % 2)))), some (.int (nI i)), x7, x8] [] (107, I', L, P) 0 0 := by
    refine loop_up ?_ (fun i hi ih => ?_)
    · intro I' x7 x8 e'
      obtain rfl | rfl : x = 0 ∨ x = 1 := by omega
      · refine q_3 rfl ?_
        refine q_0 ?_
        refine q_geN (by omega) (by omega) (fun hh => ?_) (fun hh => absurd hh (by omega))
        refine q_3 rfl ?_
        first | refine q_neN0 (by omega) (fun hh => absurd hh (by omega)) (fun hh => ?_) | refine q_neI0 (fun hh => absurd hh (by omega)) (fun hh => ?_)
        refine q_3 rfl ?_
        refine q_23 ?_
        refine q_26 ?_
        exact k.fin (FM_91 e') rfl (e' 73 0 rfl)
      · refine q_3 rfl ?_
        refine q_0 ?_
        refine q_geN (by omega) (by omega) (fun hh => ?_) (fun hh => absurd hh (by omega))
        refine q_3 rfl ?_
        first | refine q_neN0 (by omega) (fun hh => ?_) (fun hh => absurd hh (by omega)) | refine q_neI0 (fun hh => ?_) (fun hh => absurd (by omega) hh)
        refine q_3 rfl ?_
        refine q_26 ?_
        exact k.fin (FM_91 e') rfl (e' 73 0 rfl)
    · intro I' x7 x8 e'
      have i2 : i / 2 ≤ 1 := by omega
      have i3 : i % 2 ≤ 1 := by omega
      have hc : ∀ {b' : Bool}, gmp A.w A.c A.h a b i = b' → cntF (gmp A.w A.c A.h a b) (i + 1) = cntF (gmp A.w A.c A.h a b) i + (if b' then 1 else 0) := fun q => by rw [← q]; rfl
      have hs := fnd_succ (p := gmp A.w A.c A.h a b) (n := i) (i := 0) (by omega)
      have no : gmp A.w A.c A.h a b i = false → ∀ I2 y7 y8, Eqf (frm [91, 92] []) (I0 I) I2 → mj_run (mj_ev (d + 11)) k272 Q (k272 59) [some (.ref 73), some (.int (nI a)), some (.int (nI b)), some (.int (nI x)), some (.int (nI (cntF (gmp A.w A.c A.h a b) i))), some (.int (mI ((fnd i 0 (gmp A.w A.c A.h a b)).map (fun k => 10 * (k / 2) + k % 2)))), some (.int (nI (i + 1))), y7, y8] [] (107, I2, L, P) 0 0 := by
        intro q
        rw [hc q, hs, q] at ih
        rw [show ((fnd i 0 (gmp A.w A.c A.h a b)).or (if false = true then some i else none)) = fnd i 0 (gmp A.w A.c A.h a b) from by cases fnd i 0 (gmp A.w A.c A.h a b) <;> rfl] at ih
        exact ih
      refine q_3 rfl ?_
      refine q_0 ?_
      refine q_geN (by omega) (by omega) (fun hh => absurd hh (by omega)) (fun hh => ?_)
      refine q_3 rfl ?_
      refine q_0 ?_
      first | refine q_divN (by omega) (by omega) (by omega) ?_ | refine q_div (by assumption) ?_
      refine q_6 rfl rfl rfl ?_
      refine q_3 rfl ?_
      refine q_0 ?_
      first | refine q_remN (by omega) (by omega) (by omega) ?_ | refine q_rem (by assumption) ?_
      refine q_6 rfl rfl rfl ?_
      refine q_5 rfl ?_
      refine q_3 rfl ?_
      refine q_3 rfl ?_
      refine q_0 ?_
      refine q_3 rfl ?_
      first | refine q_sub (by omega) ?_ | refine q_11 rfl ?_
      refine q_3 rfl ?_
      refine q_47 (mj_ev_mono _) [_, _, _, _] rfl rfl rfl (by decide) rfl rfl rfl ?_
      refine s_271 hP (hS0.mt.f91 e') (hS0.rw.f91 e') ha hb (by omega) (by omega) (fun I1 e1 => ?_)
      refine q_5 rfl ?_
      refine q_3 rfl ?_
      refine q_3 rfl ?_
      refine q_3 rfl ?_
      refine q_3 rfl ?_
      refine q_47 (mj_ev_mono _) [_, _, _, _] rfl rfl rfl (by decide) rfl rfl rfl ?_
      refine s_271 hP (hS0.mt.f91 (e'.tr e1)) (hS0.rw.f91 (e'.tr e1)) ha hb (by omega) (by omega) (fun I2 e2 => ?_)
      refine q_gtI (fun h1 => ?_) (fun h1 => ?_)
      · first | refine q_inc rfl rfl rfl ?_ | refine q_9 rfl rfl rfl ?_
        refine q_23 ?_
        first | exact no (decide_eq_false (fun q => q.1 h1)) I2 _ _ ((e'.tr e1).tr e2) | exact no (decide_eq_false (fun q => q.2 (Int32.not_le.mp h2))) I4 _ _ ((((e'.tr e1).tr e2).tr e3).tr e4)
      · refine q_5 rfl ?_
        refine q_3 rfl ?_
        refine q_3 rfl ?_
        refine q_0 ?_
        refine q_3 rfl ?_
        first | refine q_sub (by omega) ?_ | refine q_11 rfl ?_
        refine q_3 rfl ?_
        refine q_47 (mj_ev_mono _) [_, _, _, _] rfl rfl rfl (by decide) rfl rfl rfl ?_
        refine s_271 hP (hS0.mt.f91 ((e'.tr e1).tr e2)) (hS0.rw.f91 ((e'.tr e1).tr e2)) hb ha (by omega) (by omega) (fun I3 e3 => ?_)
        refine q_5 rfl ?_
        refine q_3 rfl ?_
        refine q_3 rfl ?_
        refine q_3 rfl ?_
        refine q_3 rfl ?_
        refine q_47 (mj_ev_mono _) [_, _, _, _] rfl rfl rfl (by decide) rfl rfl rfl ?_
        refine s_271 hP (hS0.mt.f91 (((e'.tr e1).tr e2).tr e3)) (hS0.rw.f91 (((e'.tr e1).tr e2).tr e3)) hb ha (by omega) (by omega) (fun I4 e4 => ?_)
        refine q_leI (fun h2 => ?_) (fun h2 => ?_)
        · have yes : gmp A.w A.c A.h a b i = true := decide_eq_true ⟨h1, Int32.not_lt.mpr h2⟩
          rw [hc yes, hs, yes] at ih
          refine q_inc rfl rfl rfl ?_
          refine q_3 rfl ?_
          refine q_1 ?_
          cases hf : fnd i 0 (gmp A.w A.c A.h a b) with
          | none =>
            rw [hf] at ih
            refine q_neI (fun q => absurd rfl q) (fun _ => ?_)
            refine q_0 ?_
            refine q_3 rfl ?_
            refine q_mul ?_
            refine q_3 rfl ?_
            refine q_add ?_
            refine q_6 rfl rfl rfl ?_
            refine q_inc rfl rfl rfl ?_
            refine q_23 ?_
            exact ih I4 _ _ ((((e'.tr e1).tr e2).tr e3).tr e4)
          | some z =>
            rw [hf] at ih
            have hz := fnd_some hf
            refine q_neI (fun _ => ?_) (fun q => absurd (mI_ne (show 10 * (z / 2) + z % 2 < 2 ^ 31 by omega)) q)
            refine q_inc rfl rfl rfl ?_
            refine q_23 ?_
            exact ih I4 _ _ ((((e'.tr e1).tr e2).tr e3).tr e4)
        · refine q_23 ?_
          first | refine q_inc rfl rfl rfl ?_ | refine q_9 rfl rfl rfl ?_
          refine q_23 ?_
          first | exact no (decide_eq_false (fun q => q.1 h1)) I2 _ _ ((e'.tr e1).tr e2) | exact no (decide_eq_false (fun q => q.2 (Int32.not_le.mp h2))) I4 _ _ ((((e'.tr e1).tr e2).tr e3).tr e4)
  show mj_run (mj_ev (d + 11)) k272 Q (k272 0) [some (.ref 73), some (.int (nI a)), some (.int (nI b)), some (.int (nI x)), none, none, none, none, none] [] (107, I, L, P) 0 0
  refine q_5 rfl ?_
  refine q_0 ?_
  refine q_34 rfl (by decide) ?_
  refine q_5 rfl ?_
  refine q_3 rfl ?_
  refine q_47 (mj_ev_mono _) [_] rfl rfl rfl (by decide) rfl rfl rfl ?_
  refine s_221T hS0.hn hS.n10 I0_th ha ?_
  first | refine q_eqN0 (by omega) (fun hh => absurd hh (by omega)) (fun hh => ?_) | refine q_eqI0 (fun hh => absurd hh (by omega)) (fun hh => ?_)
  refine q_5 rfl ?_
  refine q_3 rfl ?_
  refine q_47 (mj_ev_mono _) [_] rfl rfl rfl (by decide) rfl rfl rfl ?_
  refine s_221T hS0.hn hS.n10 I0_th hb ?_
  first | refine q_eqN0 (by omega) (fun hh => absurd hh (by omega)) (fun hh => ?_) | refine q_eqI0 (fun hh => absurd hh (by omega)) (fun hh => ?_)
  refine q_5 rfl ?_
  refine q_3 rfl ?_
  refine q_0 ?_
  refine q_47 (mj_ev_mono _) [_, _] rfl rfl rfl (by decide) rfl rfl rfl ?_
  refine s_222T I0_th hx (by omega) ?_
  first | refine q_eqN0 (by omega) (fun hh => absurd hh (by omega)) (fun hh => ?_) | refine q_eqI0 (fun hh => absurd hh (by omega)) (fun hh => ?_)
  refine q_5 rfl ?_
  refine q_3 rfl ?_
  refine q_3 rfl ?_
  refine q_eqN (by omega) (by omega) (fun hh => absurd hh (by omega)) (fun hh => ?_)
  refine q_0 ?_
  refine q_23 ?_
  refine q_0 ?_
  refine q_47 (mj_ev_mono _) [_, _] rfl rfl rfl (by decide) rfl rfl rfl ?_
  refine s_163T I0_th ?_
  first | refine q_neN0 (by omega) (fun hh => ?_) (fun hh => absurd hh (by omega)) | refine q_neI0 (fun hh => ?_) (fun hh => absurd (by omega) hh)
  refine q_0 ?_
  refine q_6 rfl rfl rfl ?_
  refine q_1 ?_
  refine q_6 rfl rfl rfl ?_
  refine q_0 ?_
  refine q_6 rfl rfl rfl ?_
  exact L59 0 (by omega) (I0 I) _ _ Eqf.rf
theorem s_272F1 {x y z : Int32} (hS : MS A I L) (hx : (x < 0 ∨ nI A.w.n ≤ x) ∨ (∃ a, a < A.w.n ∧ x = nI a) ∧ ((y < 0 ∨ nI A.w.n ≤ y) ∨ (∃ b, b < A.w.n ∧ y = nI b) ∧ (z < nI 0 ∨ nI 1 < z))) (k : kM Q I L P 1 (.int (nI 0))) : mj_ev (d + 12) 272 [.ref 73, .int x, .int y, .int z] (107, I, L, P) Q := by
  refine ⟨rfl, ?_⟩
  have hS0 := hS.i0
  show mj_run (mj_ev (d + 11)) k272 Q (k272 0) [some (.ref 73), some (.int x), some (.int y), some (.int z), none, none, none, none, none] [] (107, I, L, P) 0 0
  rcases hx with hx | ⟨⟨a, ha, rfl⟩, hy | ⟨⟨b, hb, rfl⟩, hz⟩⟩
  · refine q_5 rfl ?_
    refine q_0 ?_
    refine q_34 rfl (by decide) ?_
    refine q_5 rfl ?_
    refine q_3 rfl ?_
    refine q_47 (mj_ev_mono _) [_] rfl rfl rfl (by decide) rfl rfl rfl ?_
    refine s_221F hS0.hn hS.n10 I0_th hx ?_
    first | refine q_eqN0 (by omega) (fun hh => ?_) (fun hh => absurd hh (by omega)) | refine q_eqI0 (fun hh => ?_) (fun hh => absurd (by omega) hh)
    refine q_0 ?_
    refine q_26 ?_
    exact k.bad
  · refine q_5 rfl ?_
    refine q_0 ?_
    refine q_34 rfl (by decide) ?_
    refine q_5 rfl ?_
    refine q_3 rfl ?_
    refine q_47 (mj_ev_mono _) [_] rfl rfl rfl (by decide) rfl rfl rfl ?_
    refine s_221T hS0.hn hS.n10 I0_th ha ?_
    first | refine q_eqN0 (by omega) (fun hh => absurd hh (by omega)) (fun hh => ?_) | refine q_eqI0 (fun hh => absurd hh (by omega)) (fun hh => ?_)
    refine q_5 rfl ?_
    refine q_3 rfl ?_
    refine q_47 (mj_ev_mono _) [_] rfl rfl rfl (by decide) rfl rfl rfl ?_
    refine s_221F hS0.hn hS.n10 I0_th hy ?_
    first | refine q_eqN0 (by omega) (fun hh => ?_) (fun hh => absurd hh (by omega)) | refine q_eqI0 (fun hh => ?_) (fun hh => absurd (by omega) hh)
    refine q_0 ?_
    refine q_26 ?_
    exact k.bad
  · refine q_5 rfl ?_
    refine q_0 ?_
    refine q_34 rfl (by decide) ?_
    refine q_5 rfl ?_
    refine q_3 rfl ?_
    refine q_47 (mj_ev_mono _) [_] rfl rfl rfl (by decide) rfl rfl rfl ?_
    refine s_221T hS0.hn hS.n10 I0_th ha ?_
    first | refine q_eqN0 (by omega) (fun hh => absurd hh (by omega)) (fun hh => ?_) | refine q_eqI0 (fun hh => absurd hh (by omega)) (fun hh => ?_)
    refine q_5 rfl ?_
    refine q_3 rfl ?_
    refine q_47 (mj_ev_mono _) [_] rfl rfl rfl (by decide) rfl rfl rfl ?_
    refine s_221T hS0.hn hS.n10 I0_th hb ?_
    first | refine q_eqN0 (by omega) (fun hh => absurd hh (by omega)) (fun hh => ?_) | refine q_eqI0 (fun hh => absurd hh (by omega)) (fun hh => ?_)
    refine q_5 rfl ?_
    refine q_3 rfl ?_
    refine q_0 ?_
    refine q_47 (mj_ev_mono _) [_, _] rfl rfl rfl (by decide) rfl rfl rfl ?_
    refine s_222F I0_th hz ?_
    first | refine q_eqN0 (by omega) (fun hh => ?_) (fun hh => absurd hh (by omega)) | refine q_eqI0 (fun hh => ?_) (fun hh => absurd (by omega) hh)
    refine q_0 ?_
    refine q_26 ?_
    exact k.bad
theorem s_272F2 {x : Nat} (hS : MS A I L) (ha : a < A.w.n) (hx : x ≤ 1) (k : kM Q I L P 2 (.int (nI 0))) : mj_ev (d + 12) 272 [.ref 73, .int (nI a), .int (nI a), .int (nI x)] (107, I, L, P) Q := by
  refine ⟨rfl, ?_⟩
  have hS0 := hS.i0
  have hn10 := hS.n10
  show mj_run (mj_ev (d + 11)) k272 Q (k272 0) [some (.ref 73), some (.int (nI a)), some (.int (nI a)), some (.int (nI x)), none, none, none, none, none] [] (107, I, L, P) 0 0
  refine q_5 rfl ?_
  refine q_0 ?_
  refine q_34 rfl (by decide) ?_
  refine q_5 rfl ?_
  refine q_3 rfl ?_
  refine q_47 (mj_ev_mono _) [_] rfl rfl rfl (by decide) rfl rfl rfl ?_
  refine s_221T hS0.hn hS.n10 I0_th ha ?_
  first | refine q_eqN0 (by omega) (fun hh => absurd hh (by omega)) (fun hh => ?_) | refine q_eqI0 (fun hh => absurd hh (by omega)) (fun hh => ?_)
  refine q_5 rfl ?_
  refine q_3 rfl ?_
  refine q_47 (mj_ev_mono _) [_] rfl rfl rfl (by decide) rfl rfl rfl ?_
  refine s_221T hS0.hn hS.n10 I0_th ha ?_
  first | refine q_eqN0 (by omega) (fun hh => absurd hh (by omega)) (fun hh => ?_) | refine q_eqI0 (fun hh => absurd hh (by omega)) (fun hh => ?_)
  refine q_5 rfl ?_
  refine q_3 rfl ?_
  refine q_0 ?_
  refine q_47 (mj_ev_mono _) [_, _] rfl rfl rfl (by decide) rfl rfl rfl ?_
  refine s_222T I0_th hx (by omega) ?_
  first | refine q_eqN0 (by omega) (fun hh => absurd hh (by omega)) (fun hh => ?_) | refine q_eqI0 (fun hh => absurd hh (by omega)) (fun hh => ?_)
  refine q_5 rfl ?_
  refine q_3 rfl ?_
  refine q_3 rfl ?_
  refine q_eqN (by omega) (by omega) (fun hh => ?_) (fun hh => absurd hh (by omega))
  refine q_0 ?_
  refine q_0 ?_
  refine q_47 (mj_ev_mono _) [_, _] rfl rfl rfl (by decide) rfl rfl rfl ?_
  refine s_163F I0_th (by omega) (by omega) ?_
  first | refine q_neN0 (by omega) (fun hh => absurd hh (by omega)) (fun hh => ?_) | refine q_neI0 (fun hh => absurd hh (by omega)) (fun hh => ?_)
  refine q_0 ?_
  refine q_26 ?_
  exact k.bad
theorem mask_img {S : Nat → Bool} {R : Nat → Nat → Bool} {B : Nat → Bool} {i : Nat} : (maskF (fun x => B x || anyB (fun r => S r && R r x) i) n ||| if S i = true then maskF (R i) n else 0) = maskF (fun x => B x || anyB (fun r => S r && R r x) (i + 1)) n := by
  by_cases hs : S i = true
  · rw [if_pos hs, mask_or]
    refine mask_congr (fun x _ => ?_)
    show ((B x || anyB _ i) || R i x) = (B x || (anyB _ i || (S i && R i x)))
    rw [hs, Bool.true_and, Bool.or_assoc]
  · rw [if_neg hs, Nat.or_zero]
    refine mask_congr (fun x _ => ?_)
    show (B x || anyB _ i) = (B x || (anyB _ i || (S i && R i x)))
    rw [Bool.not_eq_true _ |>.mp hs, Bool.false_and, Bool.or_false]
theorem s_274 {N : Nat} (hP : PS t P) (hW : MT w I) (hR : RW w.n 0 c h m I) (ha : a < w.n) (hN : N ≤ 10) (k : ∀ I', Eqf (frm [91, 92] []) I I' → Q (.inl (some (.int (nI (maskF (rch w.n (my w c h) a N) w.n))))) (107, I', L, P)) : mj_ev (d + 7) 274 [.ref 73, .int (nI a), .int (nI N)] (107, I, L, P) Q := by
  refine ⟨rfl, ?_⟩
  have hn10 := hR.n10
  have L7 : ∀ j, j ≤ N → ∀ I' x5 x6, Eqf (frm [91, 92] []) I I' → mj_run (mj_ev (d + 6)) k274 Q (k274 7) [some (.ref 73), some (.int (nI a)), some (.int (nI N)), some (.int (nI (maskF (rch w.n (my w c h) a j) w.n))), some (.int (nI j)), x5, x6] [] (107, I', L, P) 0 0 := by
    refine loop_up ?_ (fun j hj ih => ?_)
    · intro I' x5 x6 e'
      refine q_3 rfl ?_
      refine q_3 rfl ?_
      refine q_geN (by omega) (by omega) (fun hh => ?_) (fun hh => absurd hh (by omega))
      refine q_3 rfl ?_
      refine q_26 ?_
      exact k I' e'
    · intro I' x5 x6 e'
      have L19 : ∀ i, i ≤ w.n → ∀ I', Eqf (frm [91, 92] []) I I' → mj_run (mj_ev (d + 6)) k274 Q (k274 19) [some (.ref 73), some (.int (nI a)), some (.int (nI N)), some (.int (nI (maskF (rch w.n (my w c h) a j) w.n))), some (.int (nI j)), some (.int (nI (maskF (fun x => rch w.n (my w c h) a j x || anyB (fun r => rch w.n (my w c h) a j r && my w c h r x) i) w.n))), some (.int (nI i))] [] (107, I', L, P) 0 0 := by
        refine loop_up ?_ (fun i hi ih2 => ?_)
        · intro I' e'
          have hn := (hW.f91 e').hn
          refine q_3 rfl ?_
          refine q_5 rfl ?_
          first | refine q_31E rfl (by decide) hn ?_ | refine q_31 rfl (by decide) ?_
          refine q_geN (by omega) (by omega) (fun hh => ?_) (fun hh => absurd hh (by omega))
          refine q_3 rfl ?_
          refine q_6 rfl rfl rfl ?_
          first | refine q_inc rfl rfl rfl ?_ | refine q_9 rfl rfl rfl ?_
          refine q_23 ?_
          exact ih I' _ _ e'
        · intro I' e'
          have hn := (hW.f91 e').hn
          have mi := mask_img (n := w.n) (S := rch w.n (my w c h) a j) (R := my w c h) (B := rch w.n (my w c h) a j) (i := i)
          cases hs : rch w.n (my w c h) a j i with
          | true =>
            rw [hs, if_pos rfl] at mi
            refine q_3 rfl ?_
            refine q_5 rfl ?_
            first | refine q_31E rfl (by decide) hn ?_ | refine q_31 rfl (by decide) ?_
            refine q_geN (by omega) (by omega) (fun hh => absurd hh (by omega)) (fun hh => ?_)
            refine q_3 rfl ?_
            refine q_3 rfl ?_
            refine q_3 rfl ?_
            first | refine q_bitT (by assumption) (by omega) (by omega) ?_ | refine q_bitF (by assumption) (by omega) (by omega) ?_ | refine q_bit (by omega) (by omega) ?_ | refine q_bitM (by first | omega | assumption) (by omega) ?_
            refine q_0 ?_
            refine q_neN (by omega) (by omega) (fun hh => absurd hh (by omega)) (fun hh => ?_)
            refine q_5 rfl ?_
            refine q_3 rfl ?_
            refine q_47 (mj_ev_mono _) [_] rfl rfl rfl (by decide) rfl rfl rfl ?_
            refine s_217 hP (hW.f91 e') (hR.f91 e') hi (fun I2 e2 => ?_)
            refine q_23 ?_
            first | refine q_orN ?_ | refine q_11 rfl ?_
            refine q_6 rfl rfl rfl ?_
            first | refine q_inc rfl rfl rfl ?_ | refine q_9 rfl rfl rfl ?_
            refine q_23 ?_
            rw [mi]
            exact ih2 I2 (e'.tr e2)
          | false =>
            rw [hs, if_neg (by decide)] at mi
            refine q_3 rfl ?_
            refine q_5 rfl ?_
            first | refine q_31E rfl (by decide) hn ?_ | refine q_31 rfl (by decide) ?_
            refine q_geN (by omega) (by omega) (fun hh => absurd hh (by omega)) (fun hh => ?_)
            refine q_3 rfl ?_
            refine q_3 rfl ?_
            refine q_3 rfl ?_
            first | refine q_bitT (by assumption) (by omega) (by omega) ?_ | refine q_bitF (by assumption) (by omega) (by omega) ?_ | refine q_bit (by omega) (by omega) ?_ | refine q_bitM (by first | omega | assumption) (by omega) ?_
            refine q_0 ?_
            refine q_neN (by omega) (by omega) (fun hh => ?_) (fun hh => absurd hh (by omega))
            refine q_0 ?_
            first | refine q_orN ?_ | refine q_11 rfl ?_
            refine q_6 rfl rfl rfl ?_
            first | refine q_inc rfl rfl rfl ?_ | refine q_9 rfl rfl rfl ?_
            refine q_23 ?_
            rw [mi]
            exact ih2 I' e'
      refine q_3 rfl ?_
      refine q_3 rfl ?_
      refine q_geN (by omega) (by omega) (fun hh => absurd hh (by omega)) (fun hh => ?_)
      refine q_3 rfl ?_
      refine q_6 rfl rfl rfl ?_
      refine q_0 ?_
      refine q_6 rfl rfl rfl ?_
      rw [show maskF (rch w.n (my w c h) a j) w.n = maskF (fun x => rch w.n (my w c h) a j x || anyB (fun r => rch w.n (my w c h) a j r && my w c h r x) 0) w.n from mask_congr (fun x _ => by show _ = (_ || false); rw [Bool.or_false])] at *
      exact L19 0 (by omega) I' e'
  show mj_run (mj_ev (d + 6)) k274 Q (k274 0) [some (.ref 73), some (.int (nI a)), some (.int (nI N)), none, none, none, none] [] (107, I, L, P) 0 0
  refine q_0 ?_
  refine q_3 rfl ?_
  first | refine q_shl1 (by omega) ?_ | refine q_11 rfl ?_
  refine q_6 rfl rfl rfl ?_
  refine q_0 ?_
  refine q_6 rfl rfl rfl ?_
  rw [mask_one ha]
  exact L7 0 (by omega) I _ _ Eqf.rf
theorem s_275 (hP : PS t P) (hS : MS A I L) (ha : a < A.w.n) (hb : b < A.w.n) (k : kM Q I L P 0 (.int (mI (fnd A.w.n 0 (fun j => rch A.w.n (my A.w A.c A.h) a j b))))) : mj_ev (d + 12) 275 [.ref 73, .int (nI a), .int (nI b)] (107, I, L, P) Q := by
  refine ⟨rfl, ?_⟩
  have hS0 := hS.i0
  have hn10 := hS.n10
  have L25 : ∀ i, i ≤ A.w.n → ∀ I', Eqf (frm [91, 92] []) (I0 I) I' → fnd A.w.n i (fun j => rch A.w.n (my A.w A.c A.h) a j b) = fnd A.w.n 0 (fun j => rch A.w.n (my A.w A.c A.h) a j b) → mj_run (mj_ev (d + 11)) k275 Q (k275 25) [some (.ref 73), some (.int (nI a)), some (.int (nI b)), some (.int (nI i))] [] (107, I', L, P) 0 0 := by
    refine loop_up ?_ (fun i hi ih => ?_)
    · intro I' e' hf
      have hn := (hS0.mt.f91 e').hn
      rw [fnd_end (Nat.le_refl _)] at hf
      refine q_3 rfl ?_
      refine q_5 rfl ?_
      first | refine q_31E rfl (by decide) hn ?_ | refine q_31 rfl (by decide) ?_
      refine q_geN (by omega) (by omega) (fun hh => ?_) (fun hh => absurd hh (by omega))
      refine q_1 ?_
      refine q_26 ?_
      exact k.fin (FM_91 e') (by rw [← hf]; rfl) (e' 73 0 rfl)
    · intro I' e' hf
      have hn := (hS0.mt.f91 e').hn
      cases hq : rch A.w.n (my A.w A.c A.h) a i b with
      | true =>
        rw [fnd_yes hi hq] at hf
        refine q_3 rfl ?_
        refine q_5 rfl ?_
        first | refine q_31E rfl (by decide) hn ?_ | refine q_31 rfl (by decide) ?_
        refine q_geN (by omega) (by omega) (fun hh => absurd hh (by omega)) (fun hh => ?_)
        refine q_5 rfl ?_
        refine q_3 rfl ?_
        refine q_3 rfl ?_
        refine q_47 (mj_ev_mono _) [_, _] rfl rfl rfl (by decide) rfl rfl rfl ?_
        refine s_274 hP (hS0.mt.f91 e') (hS0.rw.f91 e') ha (by omega) (fun I2 e2 => ?_)
        refine q_3 rfl ?_
        first | refine q_bitT (by assumption) (by omega) (by omega) ?_ | refine q_bitF (by assumption) (by omega) (by omega) ?_ | refine q_bit (by omega) (by omega) ?_ | refine q_bitM (by first | omega | assumption) (by omega) ?_
        refine q_0 ?_
        refine q_neN (by omega) (by omega) (fun hh => absurd hh (by omega)) (fun hh => ?_)
        refine q_3 rfl ?_
        refine q_26 ?_
        exact k.fin (FM_91 (e'.tr e2)) (by rw [← hf]; rfl) ((e'.tr e2) 73 0 rfl)
      | false =>
        rw [fnd_no hi hq] at hf
        refine q_3 rfl ?_
        refine q_5 rfl ?_
        first | refine q_31E rfl (by decide) hn ?_ | refine q_31 rfl (by decide) ?_
        refine q_geN (by omega) (by omega) (fun hh => absurd hh (by omega)) (fun hh => ?_)
        refine q_5 rfl ?_
        refine q_3 rfl ?_
        refine q_3 rfl ?_
        refine q_47 (mj_ev_mono _) [_, _] rfl rfl rfl (by decide) rfl rfl rfl ?_
        refine s_274 hP (hS0.mt.f91 e') (hS0.rw.f91 e') ha (by omega) (fun I2 e2 => ?_)
        refine q_3 rfl ?_
        first | refine q_bitT (by assumption) (by omega) (by omega) ?_ | refine q_bitF (by assumption) (by omega) (by omega) ?_ | refine q_bit (by omega) (by omega) ?_ | refine q_bitM (by first | omega | assumption) (by omega) ?_
        refine q_0 ?_
        refine q_neN (by omega) (by omega) (fun hh => ?_) (fun hh => absurd hh (by omega))
        first | refine q_inc rfl rfl rfl ?_ | refine q_9 rfl rfl rfl ?_
        refine q_23 ?_
        exact ih I2 (e'.tr e2) hf
  show mj_run (mj_ev (d + 11)) k275 Q (k275 0) [some (.ref 73), some (.int (nI a)), some (.int (nI b)), none] [] (107, I, L, P) 0 0
  refine q_5 rfl ?_
  refine q_0 ?_
  refine q_34 rfl (by decide) ?_
  refine q_5 rfl ?_
  refine q_3 rfl ?_
  refine q_47 (mj_ev_mono _) [_] rfl rfl rfl (by decide) rfl rfl rfl ?_
  refine s_221T hS0.hn hS.n10 I0_th ha ?_
  first | refine q_eqN0 (by omega) (fun hh => absurd hh (by omega)) (fun hh => ?_) | refine q_eqI0 (fun hh => absurd hh (by omega)) (fun hh => ?_)
  refine q_5 rfl ?_
  refine q_3 rfl ?_
  refine q_47 (mj_ev_mono _) [_] rfl rfl rfl (by decide) rfl rfl rfl ?_
  refine s_221T hS0.hn hS.n10 I0_th hb ?_
  first | refine q_neN0 (by omega) (fun hh => ?_) (fun hh => absurd hh (by omega)) | refine q_neI0 (fun hh => ?_) (fun hh => absurd (by omega) hh)
  refine q_0 ?_
  refine q_6 rfl rfl rfl ?_
  exact L25 0 (by omega) (I0 I) Eqf.rf rfl
theorem s_275F {x y : Int32} (hS : MS A I L) (hx : (x < 0 ∨ nI A.w.n ≤ x) ∨ (∃ a, a < A.w.n ∧ x = nI a) ∧ (y < 0 ∨ nI A.w.n ≤ y)) (k : kM Q I L P 1 (.int (nI 0))) : mj_ev (d + 12) 275 [.ref 73, .int x, .int y] (107, I, L, P) Q := by
  refine ⟨rfl, ?_⟩
  have hS0 := hS.i0
  show mj_run (mj_ev (d + 11)) k275 Q (k275 0) [some (.ref 73), some (.int x), some (.int y), none] [] (107, I, L, P) 0 0
  rcases hx with hx | ⟨⟨a, ha, rfl⟩, hy⟩
  · refine q_5 rfl ?_
    refine q_0 ?_
    refine q_34 rfl (by decide) ?_
    refine q_5 rfl ?_
    refine q_3 rfl ?_
    refine q_47 (mj_ev_mono _) [_] rfl rfl rfl (by decide) rfl rfl rfl ?_
    refine s_221F hS0.hn hS.n10 I0_th hx ?_
    first | refine q_eqN0 (by omega) (fun hh => ?_) (fun hh => absurd hh (by omega)) | refine q_eqI0 (fun hh => ?_) (fun hh => absurd (by omega) hh)
    refine q_0 ?_
    refine q_26 ?_
    exact k.bad
  · refine q_5 rfl ?_
    refine q_0 ?_
    refine q_34 rfl (by decide) ?_
    refine q_5 rfl ?_
    refine q_3 rfl ?_
    refine q_47 (mj_ev_mono _) [_] rfl rfl rfl (by decide) rfl rfl rfl ?_
    refine s_221T hS0.hn hS.n10 I0_th ha ?_
    first | refine q_eqN0 (by omega) (fun hh => absurd hh (by omega)) (fun hh => ?_) | refine q_eqI0 (fun hh => absurd hh (by omega)) (fun hh => ?_)
    refine q_5 rfl ?_
    refine q_3 rfl ?_
    refine q_47 (mj_ev_mono _) [_] rfl rfl rfl (by decide) rfl rfl rfl ?_
    refine s_221F hS0.hn hS.n10 I0_th hy ?_
    first | refine q_neN0 (by omega) (fun hh => absurd hh (by omega)) (fun hh => ?_) | refine q_neI0 (fun hh => absurd hh (by omega)) (fun hh => ?_)
    refine q_0 ?_
    refine q_26 ?_
    exact k.bad
theorem s_276 (hP : PS t P) (hS : MS A I L) (k : kM Q I L P 0 (.int (nI (crcS A.w.n (my A.w A.c A.h))))) : mj_ev (d + 12) 276 [.ref 73] (107, I, L, P) Q := by
  refine ⟨rfl, ?_⟩
  have hS0 := hS.i0
  have hn10 := hS.n10
  have L11 : ∀ i, i ≤ A.w.n → ∀ (acc : Nat × (Nat → Bool)) I', Eqf (frm [91, 92] []) (I0 I) I' → (fld A.w.n i (crcF A.w.n (my A.w A.c A.h)) acc).1 = crcS A.w.n (my A.w A.c A.h) → mj_run (mj_ev (d + 11)) k276 Q (k276 11) [some (.ref 73), some (.int (nI acc.1)), some (.int (nI (maskF acc.2 A.w.n))), some (.int (nI i))] [] (107, I', L, P) 0 0 := by
    refine loop_up ?_ (fun i hi ih => ?_)
    · intro acc I' e' hf
      have hn := (hS0.mt.f91 e').hn
      rw [fld_end (Nat.le_refl _)] at hf
      refine q_3 rfl ?_
      refine q_5 rfl ?_
      first | refine q_31E rfl (by decide) hn ?_ | refine q_31 rfl (by decide) ?_
      refine q_geN (by omega) (by omega) (fun hh => ?_) (fun hh => absurd hh (by omega))
      refine q_3 rfl ?_
      refine q_26 ?_
      exact k.fin (FM_91 e') (by rw [hf]) (e' 73 0 rfl)
    · intro acc I' e' hf
      have hn := (hS0.mt.f91 e').hn
      rw [fld_step hi] at hf
      cases hq : acc.2 i with
      | true =>
        rw [show crcF A.w.n (my A.w A.c A.h) acc i = acc from if_pos hq] at hf
        refine q_3 rfl ?_
        refine q_5 rfl ?_
        first | refine q_31E rfl (by decide) hn ?_ | refine q_31 rfl (by decide) ?_
        refine q_geN (by omega) (by omega) (fun hh => absurd hh (by omega)) (fun hh => ?_)
        refine q_3 rfl ?_
        refine q_3 rfl ?_
        first | refine q_bitT (by assumption) (by omega) (by omega) ?_ | refine q_bitF (by assumption) (by omega) (by omega) ?_ | refine q_bit (by omega) (by omega) ?_ | refine q_bitM (by first | omega | assumption) (by omega) ?_
        refine q_0 ?_
        refine q_neN (by omega) (by omega) (fun hh => absurd hh (by omega)) (fun hh => ?_)
        refine q_23 ?_
        first | refine q_inc rfl rfl rfl ?_ | refine q_9 rfl rfl rfl ?_
        refine q_23 ?_
        exact ih acc I' e' hf
      | false =>
        rw [show crcF A.w.n (my A.w A.c A.h) acc i = (acc.1 + 1, fun x => acc.2 x || rch A.w.n (my A.w A.c A.h) i A.w.n x) from if_neg (by rw [hq]; decide)] at hf
        refine q_3 rfl ?_
        refine q_5 rfl ?_
        first | refine q_31E rfl (by decide) hn ?_ | refine q_31 rfl (by decide) ?_
        refine q_geN (by omega) (by omega) (fun hh => absurd hh (by omega)) (fun hh => ?_)
        refine q_3 rfl ?_
        refine q_3 rfl ?_
        first | refine q_bitT (by assumption) (by omega) (by omega) ?_ | refine q_bitF (by assumption) (by omega) (by omega) ?_ | refine q_bit (by omega) (by omega) ?_ | refine q_bitM (by first | omega | assumption) (by omega) ?_
        refine q_0 ?_
        refine q_neN (by omega) (by omega) (fun hh => ?_) (fun hh => absurd hh (by omega))
        first | refine q_inc rfl rfl rfl ?_ | refine q_9 rfl rfl rfl ?_
        refine q_3 rfl ?_
        refine q_5 rfl ?_
        refine q_3 rfl ?_
        refine q_5 rfl ?_
        first | refine q_31E rfl (by decide) hn ?_ | refine q_31 rfl (by decide) ?_
        refine q_47 (mj_ev_mono _) [_, _] rfl rfl rfl (by decide) rfl rfl rfl ?_
        refine s_274 hP (hS0.mt.f91 e') (hS0.rw.f91 e') hi (by omega) (fun I2 e2 => ?_)
        first | refine q_orN ?_ | refine q_11 rfl ?_
        refine q_6 rfl rfl rfl ?_
        first | refine q_inc rfl rfl rfl ?_ | refine q_9 rfl rfl rfl ?_
        refine q_23 ?_
        rw [mask_or]
        exact ih (acc.1 + 1, fun x => acc.2 x || rch A.w.n (my A.w A.c A.h) i A.w.n x) I2 (e'.tr e2) hf
  show mj_run (mj_ev (d + 11)) k276 Q (k276 0) [some (.ref 73), none, none, none] [] (107, I, L, P) 0 0
  refine q_5 rfl ?_
  refine q_0 ?_
  refine q_34 rfl (by decide) ?_
  refine q_0 ?_
  refine q_6 rfl rfl rfl ?_
  refine q_0 ?_
  refine q_6 rfl rfl rfl ?_
  refine q_0 ?_
  refine q_6 rfl rfl rfl ?_
  have := L11 0 (by omega) (0, fun _ => false) (I0 I) Eqf.rf rfl
  rw [← mask_none] at this
  exact this
theorem s_273 (hP : PS t P) (hS : MS A I L) (k : kM Q I L P 0 (.int (mI (rngS A.w.n (rth A.w A.c A.h A.m))))) : mj_ev (d + 12) 273 [.ref 73] (107, I, L, P) Q := by
  refine ⟨rfl, ?_⟩
  have hS0 := hS.i0
  have hn10 := hS.n10
  have L9 : ∀ p, p ≤ A.w.n → ∀ (best : Option Nat) I' x3 x4 x5 x6, (∀ z, best = some z → z ≤ A.w.n) → Eqf (frm [91, 92] []) (I0 I) I' → fld A.w.n p (fun best p => (fnd (best.getD (A.w.n + 1)) 1 (fun k => wlk A.w.n (rth A.w A.c A.h A.m) p k p)).or best) best = rngS A.w.n (rth A.w A.c A.h A.m) → mj_run (mj_ev (d + 11)) k273 Q (k273 9) [some (.ref 73), some (.int (mI best)), some (.int (nI p)), x3, x4, x5, x6] [] (107, I', L, P) 0 0 := by
    refine loop_up ?_ (fun p hp ih => ?_)
    · intro best I' x3 x4 x5 x6 hz e' hf
      have hn := (hS0.mt.f91 e').hn
      rw [fld_end (Nat.le_refl _)] at hf
      refine q_3 rfl ?_
      refine q_5 rfl ?_
      first | refine q_31E rfl (by decide) hn ?_ | refine q_31 rfl (by decide) ?_
      refine q_geN (by omega) (by omega) (fun hh => ?_) (fun hh => absurd hh (by omega))
      refine q_3 rfl ?_
      refine q_26 ?_
      exact k.fin (FM_91 e') (by rw [hf]) (e' 73 0 rfl)
    · intro best I' x3 x4 x5 x6 hz e' hf
      rw [fld_step hp] at hf
      have lim : best.getD (A.w.n + 1) ≤ A.w.n + 1 := by
        cases best with
        | none => exact Nat.le_refl _
        | some z => exact Nat.le_succ_of_le (hz z rfl)
      have out : ∀ (b2 : Option Nat) I2 y3 y4 y5 y6, (∀ z, b2 = some z → z ≤ A.w.n) → Eqf (frm [91, 92] []) (I0 I) I2 → b2 = (fnd (best.getD (A.w.n + 1)) 1 (fun k => wlk A.w.n (rth A.w A.c A.h A.m) p k p)).or best → mj_run (mj_ev (d + 11)) k273 Q (k273 111) [some (.ref 73), some (.int (mI b2)), some (.int (nI p)), y3, y4, y5, y6] [] (107, I2, L, P) 0 0 := by
        intro b2 I2 y3 y4 y5 y6 hz2 e2 hb2
        subst hb2
        first | refine q_inc rfl rfl rfl ?_ | refine q_9 rfl rfl rfl ?_
        refine q_23 ?_
        exact ih _ I2 _ _ _ _ hz2 e2 hf
      have L24 : ∀ j, j ≤ best.getD (A.w.n + 1) → 1 ≤ j → ∀ I2 y5 y6, Eqf (frm [91, 92] []) (I0 I) I2 → fnd (best.getD (A.w.n + 1)) j (fun k => wlk A.w.n (rth A.w A.c A.h A.m) p k p) = fnd (best.getD (A.w.n + 1)) 1 (fun k => wlk A.w.n (rth A.w A.c A.h A.m) p k p) → mj_run (mj_ev (d + 11)) k273 Q (k273 24) [some (.ref 73), some (.int (mI best)), some (.int (nI p)), some (.int (nI (maskF (wlk A.w.n (rth A.w A.c A.h A.m) p (j - 1)) A.w.n))), some (.int (nI j)), y5, y6] [] (107, I2, L, P) 0 0 := by
        refine loop_up ?_ (fun j hj ih2 => ?_)
        · intro h1 I2 y5 y6 e2 hf2
          have hn := (hS0.mt.f91 e2).hn
          rw [fnd_end (Nat.le_refl _)] at hf2
          cases best with
          | none =>
            refine q_3 rfl ?_
            refine q_5 rfl ?_
            first | refine q_31E rfl (by decide) hn ?_ | refine q_31 rfl (by decide) ?_
            refine q_gtN (show A.w.n + 1 < 2 ^ 31 by omega) (by omega) (fun _ => ?_) (fun q => absurd (show A.w.n + 1 ≤ A.w.n from q) (by omega))
            exact out none I2 _ _ _ _ hz e2 (by rw [← hf2]; rfl)
          | some z =>
            have hz1 := hz z rfl
            have h1' : 1 ≤ z := h1
            refine q_3 rfl ?_
            refine q_5 rfl ?_
            first | refine q_31E rfl (by decide) hn ?_ | refine q_31 rfl (by decide) ?_
            refine q_gtN (show z < 2 ^ 31 by omega) (by omega) (fun q => absurd (show A.w.n < z from q) (by omega)) (fun _ => ?_)
            refine q_3 rfl ?_
            refine q_1 ?_
            refine q_eqI (fun h => absurd h (mI_ne (by omega))) (fun _ => ?_)
            refine q_3 rfl ?_
            refine q_3 rfl ?_
            refine q_geN (show z < 2 ^ 31 by omega) (show z < 2 ^ 31 by omega) (fun _ => ?_) (fun q => absurd (show z < z from q) (by omega))
            exact out (some z) I2 _ _ _ _ hz e2 (by rw [← hf2]; rfl)
        · intro h1 I2 y5 y6 e2 hf2
          have jn : j ≤ A.w.n := by omega
          have body : ∀ I3, Eqf (frm [91, 92] []) (I0 I) I3 → mj_run (mj_ev (d + 11)) k273 Q (k273 44) [some (.ref 73), some (.int (mI best)), some (.int (nI p)), some (.int (nI (maskF (wlk A.w.n (rth A.w A.c A.h A.m) p (j - 1)) A.w.n))), some (.int (nI j)), y5, y6] [] (107, I3, L, P) 0 0 := by
            have L50 : ∀ i, i ≤ A.w.n → ∀ I3, Eqf (frm [91, 92] []) (I0 I) I3 → mj_run (mj_ev (d + 11)) k273 Q (k273 50) [some (.ref 73), some (.int (mI best)), some (.int (nI p)), some (.int (nI (maskF (wlk A.w.n (rth A.w A.c A.h A.m) p (j - 1)) A.w.n))), some (.int (nI j)), some (.int (nI (maskF (fun x => false || anyB (fun r => wlk A.w.n (rth A.w A.c A.h A.m) p (j - 1) r && rth A.w A.c A.h A.m r x) i) A.w.n))), some (.int (nI i))] [] (107, I3, L, P) 0 0 := by
              refine loop_up ?_ (fun i hi ih3 => ?_)
              · intro I3 e3
                have hn := (hS0.mt.f91 e3).hn
                have em : maskF (fun x => false || anyB (fun r => wlk A.w.n (rth A.w A.c A.h A.m) p (j - 1) r && rth A.w A.c A.h A.m r x) A.w.n) A.w.n = maskF (wlk A.w.n (rth A.w A.c A.h A.m) p j) A.w.n := mask_congr (fun x _ => by
                  rw [Bool.false_or]
                  obtain ⟨j', rfl⟩ : ∃ j', j = j' + 1 := ⟨j - 1, by omega⟩
                  rfl)
                rw [em]
                cases hq : wlk A.w.n (rth A.w A.c A.h A.m) p j p with
                | true =>
                  rw [fnd_yes hj hq] at hf2
                  refine q_3 rfl ?_
                  refine q_5 rfl ?_
                  first | refine q_31E rfl (by decide) hn ?_ | refine q_31 rfl (by decide) ?_
                  refine q_geN (by omega) (by omega) (fun hh => ?_) (fun hh => absurd hh (by omega))
                  refine q_3 rfl ?_
                  refine q_6 rfl rfl rfl ?_
                  refine q_3 rfl ?_
                  refine q_3 rfl ?_
                  first | refine q_bitT (by assumption) (by omega) (by omega) ?_ | refine q_bitF (by assumption) (by omega) (by omega) ?_ | refine q_bit (by omega) (by omega) ?_ | refine q_bitM (by first | omega | assumption) (by omega) ?_
                  refine q_0 ?_
                  refine q_neN (by omega) (by omega) (fun hh => absurd hh (by omega)) (fun hh => ?_)
                  refine q_3 rfl ?_
                  refine q_6 rfl rfl rfl ?_
                  refine q_inc rfl rfl rfl ?_
                  refine q_23 ?_
                  refine q_3 rfl ?_
                  refine q_5 rfl ?_
                  refine q_31E rfl (by decide) hn ?_
                  rcases Nat.lt_or_ge A.w.n (j + 1) with hlt | hge
                  · refine q_gtN (by omega) (by omega) (fun _ => ?_) (fun q => absurd q (by omega))
                    exact out (some j) I3 _ _ _ _ (fun z e => by cases e; exact jn) e3 (by rw [← hf2]; rfl)
                  · refine q_gtN (by omega) (by omega) (fun q => absurd q (by omega)) (fun _ => ?_)
                    refine q_3 rfl ?_
                    refine q_1 ?_
                    refine q_eqI (fun h => absurd h (mI_ne (by omega))) (fun _ => ?_)
                    refine q_3 rfl ?_
                    refine q_3 rfl ?_
                    refine q_geN (by omega) (by omega) (fun _ => ?_) (fun q => absurd q (by omega))
                    exact out (some j) I3 _ _ _ _ (fun z e => by cases e; exact jn) e3 (by rw [← hf2]; rfl)
                | false =>
                  rw [fnd_no hj hq] at hf2
                  refine q_3 rfl ?_
                  refine q_5 rfl ?_
                  first | refine q_31E rfl (by decide) hn ?_ | refine q_31 rfl (by decide) ?_
                  refine q_geN (by omega) (by omega) (fun hh => ?_) (fun hh => absurd hh (by omega))
                  refine q_3 rfl ?_
                  refine q_6 rfl rfl rfl ?_
                  refine q_3 rfl ?_
                  refine q_3 rfl ?_
                  first | refine q_bitT (by assumption) (by omega) (by omega) ?_ | refine q_bitF (by assumption) (by omega) (by omega) ?_ | refine q_bit (by omega) (by omega) ?_ | refine q_bitM (by first | omega | assumption) (by omega) ?_
                  refine q_0 ?_
                  refine q_neN (by omega) (by omega) (fun hh => ?_) (fun hh => absurd hh (by omega))
                  first | refine q_inc rfl rfl rfl ?_ | refine q_9 rfl rfl rfl ?_
                  refine q_23 ?_
                  exact ih2 (by omega) I3 _ _ e3 hf2
              · intro I3 e3
                have hn := (hS0.mt.f91 e3).hn
                have mi := mask_img (n := A.w.n) (S := wlk A.w.n (rth A.w A.c A.h A.m) p (j - 1)) (R := rth A.w A.c A.h A.m) (B := fun _ => false) (i := i)
                cases hs : wlk A.w.n (rth A.w A.c A.h A.m) p (j - 1) i with
                | true =>
                  rw [hs, if_pos rfl] at mi
                  refine q_3 rfl ?_
                  refine q_5 rfl ?_
                  first | refine q_31E rfl (by decide) hn ?_ | refine q_31 rfl (by decide) ?_
                  refine q_geN (by omega) (by omega) (fun hh => absurd hh (by omega)) (fun hh => ?_)
                  refine q_3 rfl ?_
                  refine q_3 rfl ?_
                  refine q_3 rfl ?_
                  first | refine q_bitT (by assumption) (by omega) (by omega) ?_ | refine q_bitF (by assumption) (by omega) (by omega) ?_ | refine q_bit (by omega) (by omega) ?_ | refine q_bitM (by first | omega | assumption) (by omega) ?_
                  refine q_0 ?_
                  refine q_neN (by omega) (by omega) (fun hh => absurd hh (by omega)) (fun hh => ?_)
                  refine q_5 rfl ?_
                  refine q_3 rfl ?_
                  refine q_47 (mj_ev_mono _) [_] rfl rfl rfl (by decide) rfl rfl rfl ?_
                  refine s_218 hP (hS0.mt.f91 e3) (hS0.rw.f91 e3) hi (fun I4 e4 => ?_)
                  refine q_23 ?_
                  first | refine q_orN ?_ | refine q_11 rfl ?_
                  refine q_6 rfl rfl rfl ?_
                  first | refine q_inc rfl rfl rfl ?_ | refine q_9 rfl rfl rfl ?_
                  refine q_23 ?_
                  rw [mi]
                  exact ih3 I4 (e3.tr e4)
                | false =>
                  rw [hs, if_neg (by decide)] at mi
                  refine q_3 rfl ?_
                  refine q_5 rfl ?_
                  first | refine q_31E rfl (by decide) hn ?_ | refine q_31 rfl (by decide) ?_
                  refine q_geN (by omega) (by omega) (fun hh => absurd hh (by omega)) (fun hh => ?_)
                  refine q_3 rfl ?_
                  refine q_3 rfl ?_
                  refine q_3 rfl ?_
                  first | refine q_bitT (by assumption) (by omega) (by omega) ?_ | refine q_bitF (by assumption) (by omega) (by omega) ?_ | refine q_bit (by omega) (by omega) ?_ | refine q_bitM (by first | omega | assumption) (by omega) ?_
                  refine q_0 ?_
                  refine q_neN (by omega) (by omega) (fun hh => ?_) (fun hh => absurd hh (by omega))
                  refine q_0 ?_
                  first | refine q_orN ?_ | refine q_11 rfl ?_
                  refine q_6 rfl rfl rfl ?_
                  first | refine q_inc rfl rfl rfl ?_ | refine q_9 rfl rfl rfl ?_
                  refine q_23 ?_
                  rw [mi]
                  exact ih3 I3 e3
            intro I3 e3
            refine q_0 ?_
            refine q_6 rfl rfl rfl ?_
            refine q_0 ?_
            refine q_6 rfl rfl rfl ?_
            have := L50 0 (by omega) I3 e3
            rw [show maskF (fun x => false || anyB (fun r => wlk A.w.n (rth A.w A.c A.h A.m) p (j - 1) r && rth A.w A.c A.h A.m r x) 0) A.w.n = 0 from (mask_none A.w.n).symm] at this
            exact this
          have hn := (hS0.mt.f91 e2).hn
          cases best with
          | none =>
            refine q_3 rfl ?_
            refine q_5 rfl ?_
            first | refine q_31E rfl (by decide) hn ?_ | refine q_31 rfl (by decide) ?_
            refine q_gtN (by omega) (by omega) (fun hh => absurd hh (by omega)) (fun hh => ?_)
            refine q_3 rfl ?_
            refine q_1 ?_
            refine q_eqI (fun _ => ?_) (fun h => absurd rfl h)
            exact body I2 e2
          | some z =>
            have hz1 := hz z rfl
            have hjz : j < z := hj
            refine q_3 rfl ?_
            refine q_5 rfl ?_
            first | refine q_31E rfl (by decide) hn ?_ | refine q_31 rfl (by decide) ?_
            refine q_gtN (by omega) (by omega) (fun hh => absurd hh (by omega)) (fun hh => ?_)
            refine q_3 rfl ?_
            refine q_1 ?_
            refine q_eqI (fun h => absurd h (mI_ne (by omega))) (fun _ => ?_)
            refine q_3 rfl ?_
            refine q_3 rfl ?_
            refine q_geN (by omega) (show z < 2 ^ 31 by omega) (fun q => absurd (show z ≤ j from q) (by omega)) (fun _ => ?_)
            exact body I2 e2
      have hn := (hS0.mt.f91 e').hn
      by_cases hg : 1 ≤ best.getD (A.w.n + 1)
      · refine q_3 rfl ?_
        refine q_5 rfl ?_
        first | refine q_31E rfl (by decide) hn ?_ | refine q_31 rfl (by decide) ?_
        refine q_geN (by omega) (by omega) (fun hh => absurd hh (by omega)) (fun hh => ?_)
        refine q_0 ?_
        refine q_3 rfl ?_
        first | refine q_shl1 (by omega) ?_ | refine q_11 rfl ?_
        refine q_6 rfl rfl rfl ?_
        refine q_0 ?_
        refine q_6 rfl rfl rfl ?_
        rw [mask_one hp]
        exact L24 1 hg (Nat.le_refl _) I' _ _ e' rfl
      · cases best with
        | none => exact absurd (show 1 ≤ A.w.n + 1 by omega) hg
        | some z =>
          have hz0 : z = 0 := by
            have : ¬ 1 ≤ z := hg
            omega
          subst hz0
          have nn : fnd ((some 0).getD (A.w.n + 1)) 1 (fun k => wlk A.w.n (rth A.w A.c A.h A.m) p k p) = none := fnd_end (by show 0 ≤ 1; omega)
          refine q_3 rfl ?_
          refine q_5 rfl ?_
          first | refine q_31E rfl (by decide) hn ?_ | refine q_31 rfl (by decide) ?_
          refine q_geN (by omega) (by omega) (fun hh => absurd hh (by omega)) (fun hh => ?_)
          refine q_0 ?_
          refine q_3 rfl ?_
          first | refine q_shl1 (by omega) ?_ | refine q_11 rfl ?_
          refine q_6 rfl rfl rfl ?_
          refine q_0 ?_
          refine q_6 rfl rfl rfl ?_
          refine q_3 rfl ?_
          refine q_5 rfl ?_
          first | refine q_31E rfl (by decide) hn ?_ | refine q_31 rfl (by decide) ?_
          refine q_gtN (by omega) (by omega) (fun hh => absurd hh (by omega)) (fun hh => ?_)
          refine q_3 rfl ?_
          refine q_1 ?_
          refine q_eqI (fun h => absurd h (mI_ne (by omega))) (fun _ => ?_)
          refine q_3 rfl ?_
          refine q_3 rfl ?_
          refine q_geN (by omega) (show 0 < 2 ^ 31 by omega) (fun _ => ?_) (fun q => absurd q (by omega))
          exact out (some 0) I' _ _ _ _ hz e' (by rw [nn]; rfl)
  show mj_run (mj_ev (d + 11)) k273 Q (k273 0) [some (.ref 73), none, none, none, none, none, none] [] (107, I, L, P) 0 0
  refine q_5 rfl ?_
  refine q_0 ?_
  refine q_34 rfl (by decide) ?_
  refine q_1 ?_
  refine q_6 rfl rfl rfl ?_
  refine q_0 ?_
  refine q_6 rfl rfl rfl ?_
  exact L9 0 (by omega) none (I0 I) _ _ _ _ (fun z e => by cases e) Eqf.rf rfl
end M
