/-! the class's acts (4): it sees, undoes -/
theorem pck1 {c h : Nat} {m : Option Nat} (hc : c < 16) : nI (pck c h m) &&& nI 15 = nI c := by
  rw [nI_and, show (15 : Nat) = 2 ^ 4 - 1 from rfl, Nat.and_two_pow_sub_one_eq_mod]
  unfold pck
  congr 1
  omega
theorem pck2 {c h : Nat} {m : Option Nat} (hc : c < 16) (hh : h < 16) (hm : mN m < 16) : nI (pck c h m) >>> (nI 4 &&& 31) &&& nI 15 = nI h := by
  rw [pk_shrN (by unfold pck; omega) _ 4 (sh_k 4 (by omega)), nI_and, show (15 : Nat) = 2 ^ 4 - 1 from rfl, Nat.and_two_pow_sub_one_eq_mod]
  unfold pck
  congr 1
  omega
theorem pck3 {c h : Nat} {m : Option Nat} (hc : c < 16) (hh : h < 16) (hm : mN m < 16) : nI (pck c h m) >>> (nI 8 &&& 31) - nI 1 = mI m := by
  rw [pk_shrN (by unfold pck; omega) _ 8 (sh_k 8 (by omega)), show pck c h m / 2 ^ 8 = mN m from by unfold pck; omega, ← mI_1]
  exact Int32.add_sub_cancel _ _
section C
variable {I : mj_I} {L : mj_L} {P : mj_P} {Q : mj_Q} {d n r t a b : Nat} {A : AS} {w : WT} {c h : Nat → Nat} {m : MM}
theorem c_67 {ro : RO} (hP : PS t P) (hn : n ≤ 10) (hb : b + 10 < 440) (hR : PR n (I 35) b ro) (k : ∀ I', Eqf (frm [32, 33, 34] [(31, 0)]) I I' → I' 31 0 = ro.1 → CW n 32 33 34 ro.2.1 ro.2.2.1 ro.2.2.2 I' → Q (.inl none) (107, I', L, P)) : mj_ev (d + 1) 67 [.ref 31, .ref 35, .int (nI b)] (107, I, L, P) Q := by
  refine ⟨rfl, ?_⟩
  obtain ⟨hy, hr, hc, hh10, hg⟩ := hR
  have L9 : ∀ i, i ≤ 10 → ∀ I' x4, Eqf (frm [32, 33, 34] [(31, 0)]) I I' → I' 31 0 = ro.1 → (∀ p, p < i → I' 32 p = nI (cx n ro.2.1 p) ∧ I' 33 p = nI (cx n ro.2.2.1 p) ∧ I' 34 p = mI (mx n ro.2.2.2 p)) → mj_run (mj_ev d) k67 Q (k67 9) [some (.ref 31), some (.ref 35), some (.int (nI b)), some (.int (nI i)), x4] [] (107, I', L, P) 0 0 := by
    refine loop_up ?_ (fun i hi ih => ?_)
    · intro I' x4 e' g1 g2
      refine q_3 rfl ?_
      refine q_0 ?_
      refine q_geN (by omega) (by omega) (fun hh => ?_) (fun hh => absurd hh (by omega))
      refine q_25 ?_
      exact k I' e' g1 ⟨hn, fun p hp => (g2 p hp).1, fun p hp => (g2 p hp).2.1, fun p hp => (g2 p hp).2.2, hc, hh10, hg⟩
    · intro I' x4 e' g1 g2
      have r1 : I' 35 (b + 1 + i) = nI (pck (cx n ro.2.1 i) (cx n ro.2.2.1 i) (mx n ro.2.2.2 i)) := (e' 35 _ rfl).trans (hr i hi)
      have c1 := cx_16 hc i
      have c2 := cx_16 hh10 i
      have c3 := mx_16 hn hg i
      refine q_3 rfl ?_
      refine q_0 ?_
      refine q_geN (by omega) (by omega) (fun hh => absurd hh (by omega)) (fun hh => ?_)
      refine q_5 rfl ?_
      refine q_3 rfl ?_
      refine q_0 ?_
      first | refine q_add ?_ | refine q_11 rfl ?_
      refine q_3 rfl ?_
      first | refine q_add ?_ | refine q_11 rfl ?_
      first | refine q_38E _ rfl (by decide) rfl (by show _ < 440; omega) (by decide) (r1) ?_ | refine q_38 _ rfl (by decide) rfl (by show _ < 440; omega) (by decide) ?_
      refine q_6 rfl rfl rfl ?_
      refine q_5 rfl ?_
      refine q_33 rfl (by decide) (hP _ _ _ rfl) ?_
      refine q_3 rfl ?_
      refine q_3 rfl ?_
      refine q_0 ?_
      refine q_11 rfl ?_
      rw [pck1 c1]
      refine q_42 i rfl (by decide) rfl (by show _ < 10; omega) (by decide) ?_
      refine q_5 rfl ?_
      refine q_33 rfl (by decide) (hP _ _ _ rfl) ?_
      refine q_3 rfl ?_
      refine q_3 rfl ?_
      refine q_0 ?_
      refine q_11 rfl ?_
      refine q_0 ?_
      refine q_11 rfl ?_
      rw [pck2 c1 c2 c3]
      refine q_42 i rfl (by decide) rfl (by show _ < 10; omega) (by decide) ?_
      refine q_5 rfl ?_
      refine q_33 rfl (by decide) (hP _ _ _ rfl) ?_
      refine q_3 rfl ?_
      refine q_3 rfl ?_
      refine q_0 ?_
      refine q_11 rfl ?_
      refine q_0 ?_
      refine q_11 rfl ?_
      rw [pck3 c1 c2 c3]
      refine q_42 i rfl (by decide) rfl (by show _ < 10; omega) (by decide) ?_
      first | refine q_inc rfl rfl rfl ?_ | refine q_9 rfl rfl rfl ?_
      refine q_23 ?_
      refine ih _ _ (((e'.up rfl).up rfl).up rfl) g1 (fun p hp => ?_)
      by_cases e : p = i
      · subst e
        exact ⟨(congrFun (upI_c (by decide)) _).trans ((congrFun (upI_c (by decide)) _).trans upI_s), (congrFun (upI_c (by decide)) _).trans upI_s, upI_s⟩
      · have := g2 p (by omega)
        exact ⟨(congrFun (upI_c (by decide)) _).trans ((congrFun (upI_c (by decide)) _).trans ((upI_j e).trans this.1)), (congrFun (upI_c (by decide)) _).trans ((upI_j e).trans this.2.1), (upI_j e).trans this.2.2⟩
  show mj_run (mj_ev d) k67 Q (k67 0) [some (.ref 31), some (.ref 35), some (.int (nI b)), none, none] [] (107, I, L, P) 0 0
  refine q_5 rfl ?_
  refine q_5 rfl ?_
  refine q_3 rfl ?_
  first | refine q_38E _ rfl (by decide) rfl (by show _ < 440; omega) (by decide) (hy) ?_ | refine q_38 _ rfl (by decide) rfl (by show _ < 440; omega) (by decide) ?_
  refine q_34 rfl (by decide) ?_
  refine q_0 ?_
  refine q_6 rfl rfl rfl ?_
  exact L9 0 (by omega) _ _ (Eqf.rf.up rfl) upI_s (fun p hp => absurd hp (by omega))
theorem c_114 {ro : RO} (hP : PS t P) (hS : CS A I) (hl : A.ac.getLast? = some ro) (k : kC Q I L P (A.undo ro) (.inl (some (.int (nI (A.ac.length - 1)))))) : mj_ev (d + 12) 114 [.ref 0] (107, I, L, P) Q := by
  refine ⟨rfl, ?_⟩
  have hn10 := hS.cb.n10
  obtain ⟨hy, hW, ⟨f0, hf0, h3, hro⟩, h1, hl4, h2, hl2, hse⟩ := hS.cb.2.1
  have hne : A.ac ≠ [] := fun e => by
    rw [e] at hl
    cases hl
  have hpos : 0 < A.ac.length := List.length_pos_iff.mpr hne
  have hlen : A.im.2.1.length = A.ac.length := rfl
  have h1' : I 30 1 = nI A.ac.length := h1
  have hlast : A.im.2.1[A.ac.length - 1]? = some ro := by
    rw [← hl, List.getLast?_eq_getElem?]
    rfl
  have hpr := hro _ _ hlast
  have q2 : mj_upI I 30 1 (nI (A.ac.length - 1)) 30 1 = nI (A.ac.length - 1) := upI_s
  have q3 : mj_upI I 30 1 (nI (A.ac.length - 1)) 30 3 = nI f0 := (upI_j (by omega)).trans h3
  have u11 : ∀ (d' : Nat) (Q' : mj_Q), (∀ I', Eqf (frm [32, 33, 34] [(30, 1), (31, 0)]) I I' → I' 30 1 = nI (A.ac.length - 1) → I' 31 0 = ro.1 → CW A.w.n 32 33 34 ro.2.1 ro.2.2.1 ro.2.2.2 I' → Q' (.inl (some (.int (nI 1)))) (107, I', L, P)) → mj_ev (d' + 2) 11 [.ref 30] (107, I, L, P) Q' := by
    intro d' Q' k'
    refine ⟨rfl, ?_⟩
    show mj_run (mj_ev (d' + 1)) k11 Q' (k11 0) [some (.ref 30)] [] (107, I, L, P) 0 0
    refine q_5 rfl ?_
    first | refine q_31E rfl (by decide) h1' ?_ | refine q_31E rfl (by decide) q2 ?_ | refine q_31 rfl (by decide) ?_
    first | refine q_neN0 (by omega) (fun hh => ?_) (fun hh => absurd hh (by omega)) | refine q_neI0 (fun hh => ?_) (fun hh => absurd (by omega) hh)
    refine q_5 rfl ?_
    refine q_18 rfl ?_
    first | refine q_31E rfl (by decide) h1' ?_ | refine q_31E rfl (by decide) q2 ?_ | refine q_31 rfl (by decide) ?_
    refine q_0 ?_
    first | refine q_sub (by omega) ?_ | refine q_11 rfl ?_
    refine q_34 rfl (by decide) ?_
    refine q_5 rfl ?_
    refine q_33 rfl (by decide) (hP _ _ _ rfl) ?_
    refine q_5 rfl ?_
    refine q_33 rfl (by decide) (hP _ _ _ rfl) ?_
    refine q_5 rfl ?_
    first | refine q_31E rfl (by decide) q3 ?_ | refine q_31 rfl (by decide) ?_
    refine q_5 rfl ?_
    first | refine q_31E rfl (by decide) h1' ?_ | refine q_31E rfl (by decide) q2 ?_ | refine q_31 rfl (by decide) ?_
    first | refine q_add ?_ | refine q_11 rfl ?_
    refine q_0 ?_
    first | refine q_remN (by omega) (by omega) (by omega) ?_ | refine q_rem (by assumption) ?_
    refine q_0 ?_
    first | refine q_mul ?_ | refine q_11 rfl ?_
    refine q_47 (mj_ev_mono _) [_, _] rfl rfl rfl (by decide) rfl rfl rfl ?_
    refine c_67 (b := (f0 + (A.ac.length - 1)) % 40 * 11) (ro := ro) hP hn10 (by omega) hpr (fun I2 e2 g1 g2 => ?_)
    refine q_0 ?_
    refine q_27 (by first | exact Or.inl rfl | exact Or.inr rfl | assumption | (split <;> first | exact Or.inl rfl | exact Or.inr rfl)) ?_
    exact k' I2 ((Eqf.rf.up rfl).tr (e2.to rfl rfl)) ((e2 30 1 rfl).trans upI_s) g1 g2
  show mj_run (mj_ev (d + 11)) k114 Q (k114 0) [some (.ref 0)] [] (107, I, L, P) 0 0
  refine q_5 rfl ?_
  refine q_33 rfl (by decide) (hP _ _ _ rfl) ?_
  refine q_47 (mj_ev_mono _) [] rfl rfl rfl (by decide) rfl rfl rfl ?_
  refine u11 _ _ (fun I2 e2 g0 g1 g2 => ?_)
  have q4 : uS I2 30 1 = nI (A.ac.length - 1) := (uS_f 30 1 rfl).trans g0
  first | refine q_neN0 (by omega) (fun hh => ?_) (fun hh => absurd hh (by omega)) | refine q_neI0 (fun hh => ?_) (fun hh => absurd (by omega) hh)
  refine q_5 rfl ?_
  refine q_47 (mj_ev_mono _) [] rfl rfl rfl (by decide) rfl rfl rfl ?_
  refine c_157 hP ?_
  refine q_5 rfl ?_
  refine q_33 rfl (by decide) (hP _ _ _ rfl) ?_
  first | refine q_31E rfl (by decide) q4 ?_ | refine q_31 rfl (by decide) ?_
  refine q_26 ?_
  have E : Eqf (frm [32, 33, 34] [(30, 1), (31, 0), (48, 4), (51, 4), (55, 1), (60, 1), (65, 0)]) I (uS I2) := (e2.to rfl rfl).tr (uS_f.to rfl rfl)
  refine k _ L (CS.clr (hS.cb.si (E.to rfl rfl) ⟨(uS_f 31 0 rfl).trans g1, g2.fr (funext fun j => uS_f 32 j rfl) (funext fun j => uS_f 33 j rfl) (funext fun j => uS_f 34 j rfl), ⟨f0, hf0, (E 30 3 rfl).trans h3, fun i r0 hi => ?_⟩, ?_, ?_, (E 30 2 rfl).trans h2, hl2, fun i x he => ?_⟩) rfl rfl rfl rfl rfl) (fun c j h73 => E c j (frm_hi h73 rfl rfl)) (fun _ _ _ => rfl)
  · rw [show A.ac.dropLast[i]? = if i < A.ac.length - 1 then A.ac[i]? else none from List.getElem?_dropLast] at hi
    split at hi
    · exact (hro i r0 hi).fr (fun j _ _ => E 35 j rfl)
    · cases hi
  · show _ = nI A.ac.dropLast.length
    rw [List.length_dropLast]
    exact q4
  · show A.ac.dropLast.length ≤ 40
    rw [List.length_dropLast]
    omega
  · rw [E 36 i rfl, E 37 i rfl, E 38 i rfl]
    exact hse i x he
theorem c_114F (hP : PS t P) (hS : CS A I) (hl : A.ac = []) (k : kC Q I L P A (.inl (some (.int (-(nI 1)))))) : mj_ev (d + 12) 114 [.ref 0] (107, I, L, P) Q := by
  refine ⟨rfl, ?_⟩
  have h1 : I 30 1 = nI 0 := by
    have h1 : I 30 1 = nI A.ac.length := hS.cb.2.1.2.2.2.1
    rw [hl] at h1
    exact h1
  have u11 : ∀ (d' : Nat) (Q' : mj_Q), Q' (.inl (some (.int (nI 0)))) (107, I, L, P) → mj_ev (d' + 2) 11 [.ref 30] (107, I, L, P) Q' := by
    intro d' Q' k'
    refine ⟨rfl, ?_⟩
    show mj_run (mj_ev (d' + 1)) k11 Q' (k11 0) [some (.ref 30)] [] (107, I, L, P) 0 0
    refine q_5 rfl ?_
    first | refine q_31E rfl (by decide) h1 ?_ | refine q_31 rfl (by decide) ?_
    first | refine q_neN0 (by omega) (fun hh => absurd hh (by omega)) (fun hh => ?_) | refine q_neI0 (fun hh => absurd hh (by omega)) (fun hh => ?_)
    refine q_0 ?_
    refine q_27 (by first | exact Or.inl rfl | exact Or.inr rfl | assumption | (split <;> first | exact Or.inl rfl | exact Or.inr rfl)) ?_
    exact k'
  show mj_run (mj_ev (d + 11)) k114 Q (k114 0) [some (.ref 0)] [] (107, I, L, P) 0 0
  refine q_5 rfl ?_
  refine q_33 rfl (by decide) (hP _ _ _ rfl) ?_
  refine q_47 (mj_ev_mono _) [] rfl rfl rfl (by decide) rfl rfl rfl ?_
  refine u11 _ _ ?_
  first | refine q_neN0 (by omega) (fun hh => absurd hh (by omega)) (fun hh => ?_) | refine q_neI0 (fun hh => absurd hh (by omega)) (fun hh => ?_)
  refine q_1 ?_
  refine q_26 ?_
  exact k.same hS rfl
end C
