/-! the model reads an EXPR: what it may do -/
theorem jn_k {k : Nat} (h : ∀ l, l ≠ 2 → jn l k = none) : k ≠ 7 ∧ k ≠ 8 ∧ k ≠ 43 ∧ k ≠ 45 ∧ k ≠ 42 ∧ k ≠ 47 := by
  refine ⟨?_, ?_, ?_, ?_, ?_, ?_⟩
  · rintro rfl; exact absurd (h 0 (by omega)) (by decide)
  · rintro rfl; exact absurd (h 1 (by omega)) (by decide)
  · rintro rfl; exact absurd (h 3 (by omega)) (by decide)
  · rintro rfl; exact absurd (h 3 (by omega)) (by decide)
  · rintro rfl; exact absurd (h 4 (by omega)) (by decide)
  · rintro rfl; exact absurd (h 4 (by omega)) (by decide)
theorem mk16 {k : Nat} : mI (mk k) = nI 16 ↔ k = 8 := by
  constructor
  · intro h
    have e : mk k = some 16 := (mI_inj mk31 (m' := some 16) (fun q e => by cases e; omega)).mp h
    have h1 := mk_lt e
    unfold mk at e
    rw [if_pos h1.1] at e
    have e2 : mw k = 16 := Option.some.inj e
    have := (cw_mw k h1.1).1
    rw [e2] at this
    exact this.symm
  · rintro rfl; rfl
theorem mk17 {k : Nat} : mI (mk k) = nI 17 ↔ k = 7 := by
  constructor
  · intro h
    have e : mk k = some 17 := (mI_inj mk31 (m' := some 17) (fun q e => by cases e; omega)).mp h
    have h1 := mk_lt e
    unfold mk at e
    rw [if_pos h1.1] at e
    have e2 : mw k = 17 := Option.some.inj e
    have := (cw_mw k h1.1).1
    rw [e2] at this
    exact this.symm
  · rintro rfl; rfl
theorem mk18I {k : Nat} : mI (mk k) = nI 18 ↔ k = 9 := by
  rw [← mk18]
  exact mI_inj mk31 (m' := some 18) (fun q e => by cases e; omega)
section M
variable {I : mj_I} {L : mj_L} {P : mj_P} {Q : mj_Q} {d n r t j : Nat} {b : Nat → Nat} {W O : List Nat} {dp : Nat} {ts : Nat → Bool} {lo hi : Nat}
theorem s_178T {c : Nat} (hT : TM b n j I L) (hB : MB b n I) (hc : 40 ≤ c ∧ c < 100) (e : tK b n j = c) (k : Q (.inl (some (.int (nI 1)))) (107, I, L, P)) : mj_ev (d + 1) 178 [.ref 73, .int (nI c)] (107, I, L, P) Q := s_178 hT hc.1 hc.2 (fun i hi => (hB.1 i hi).2) (by rw [if_pos e]; exact k)
theorem s_178F {c : Nat} (hT : TM b n j I L) (hB : MB b n I) (hc : 40 ≤ c ∧ c < 100) (e : tK b n j ≠ c) (k : Q (.inl (some (.int (nI 0)))) (107, I, L, P)) : mj_ev (d + 1) 178 [.ref 73, .int (nI c)] (107, I, L, P) Q := s_178 hT hc.1 hc.2 (fun i hi => (hB.1 i hi).2) (by rw [if_neg e]; exact k)
theorem XS0.tst {v : Bool} (h : XS0 b n j W dp ts O I L) : XS0 b n j W dp (fun i => if i = dp then v else ts i) O (mj_upI I 88 dp (vp_nar .boolean (nI (if v then 1 else 0)))) L := by
  obtain ⟨a1, a2, a3, ⟨a4, a5, a6⟩, ⟨a7, a8, a9, a10⟩, a11, a12⟩ := h
  refine ⟨a1.fr (fun _ => rfl) rfl, a2.fr (fun q hq => by rcases hq with rfl | rfl | rfl | rfl | rfl | rfl <;> rfl) rfl, a3, ⟨a4, a5, a6⟩, ⟨a7, a8, a9, fun i g1 g2 => ?_⟩, a11, a12⟩
  show _ = nI (if (if i = dp then v else ts i) = true then 1 else 0)
  by_cases e : i = dp
  · rw [if_pos e, e, upI_s]
    cases v
    · exact nb0
    · exact nb1
  · rw [if_neg e, upI_j e]
    exact a10 i g1 (by omega)
theorem fl_hr {c jf : Nat} (hF : FLm b n d Q P lo hi I L c jf) {I' : mj_I} {L' : mj_L} (E : Eqf (frm [86, 87, 88] XF4) I I') (EL : EqL (frm [] [(73, 21)]) L L') (hX : XFl b n c jf I') : HR (d + 5) Q lo hi (107, I', L', P) := by
  intro x4
  have hX' := hX
  obtain ⟨c0, c9, g11, -⟩ := hX
  refine q_3 rfl ?_
  first | refine q_eqN0 (by omega) (fun hh => absurd hh (by omega)) (fun hh => ?_) | refine q_eqI0 (fun hh => absurd hh (by omega)) (fun hh => ?_)
  refine q_5 rfl ?_
  refine q_47 (mj_ev_mono _) [] rfl rfl rfl (by decide) rfl rfl rfl ?_
  refine s_177B g11 c0 c9 ?_
  first | refine q_eqN0 (by omega) (fun hh => ?_) (fun hh => absurd hh (by omega)) | refine q_eqI0 (fun hh => ?_) (fun hh => absurd (by omega) hh)
  refine q_5 rfl ?_
  refine q_47 (mj_ev_mono _) [] rfl rfl rfl (by decide) rfl rfl rfl ?_
  refine s_177B g11 c0 c9 ?_
  first | refine q_eqN0 (by omega) (fun hh => ?_) (fun hh => absurd hh (by omega)) | refine q_eqI0 (fun hh => ?_) (fun hh => absurd (by omega) hh)
  exact hF I' L' E EL hX' _ _
theorem rl_1 (hP : PS t P) (h7 : nts (tK b n) 7 j < 7) (h : ONm b n d Q P lo hi I L (j + nts (tK b n) 7 j) (List.replicate (nts (tK b n) 7 j) 3 ++ W) dp ts O) : OPm b n d Q P lo hi I L true j W dp ts O := by
  intro hb I' L' E EL hX x1 x4
  have h9 := nts_not h7
  have hend : ∀ I2 L2, Eqf (frm [86, 87, 88] XF4) I I2 → EqL (frm [] [(73, 21)]) L L2 → XS0 b n (j + nts (tK b n) 7 j) (List.replicate (nts (tK b n) 7 j) 3 ++ W) dp ts O I2 L2 → XB b n (j + nts (tK b n) 7 j) (List.replicate (nts (tK b n) 7 j) 3 ++ W) O → ∀ y1, mj_run (mj_ev (d + 4)) k189 (QO (d + 5) Q lo hi) (k189 18) [some (.ref 73), some (.int y1), some (.int (nI 1)), some (.int (nI 1)), some (.int (nI (nts (tK b n) 7 j)))] [] (107, I2, L2, P) 0 0 := by
    intro I2 L2 E2 EL2 hX2 hb2 y1
    refine q_5 rfl ?_
    refine q_47 (mj_ev_mono _) [] rfl rfl rfl (by decide) rfl rfl rfl ?_
    refine s_177G hX2.g ?_
    first | refine q_eqN0 (by omega) (fun hh => absurd hh (by omega)) (fun hh => ?_) | refine q_eqI0 (fun hh => absurd hh (by omega)) (fun hh => ?_)
    refine q_3 rfl ?_
    first | refine q_eqN0 (by omega) (fun hh => absurd hh (by omega)) (fun hh => ?_) | refine q_eqI0 (fun hh => absurd hh (by omega)) (fun hh => ?_)
    refine q_5 rfl ?_
    refine q_47 (mj_ev_mono _) [] rfl rfl rfl (by decide) rfl rfl rfl ?_
    refine s_175 hP hX2.tm hX2.n7 ?_
    refine q_0 ?_
    refine q_neI (fun _ => ?_) (fun z => absurd (mk18I.mp (Classical.not_not.mp z)) h9)
    exact h hb2 I2 L2 E2 EL2 hX2 _ _ _ _
  show mj_run (mj_ev (d + 4)) k189 (QO (d + 5) Q lo hi) (k189 4) [some (.ref 73), some (.int x1), some (.int (nI 1)), some (.int (nI 1)), x4] [] (107, I', L', P) 0 0
  refine q_3 rfl ?_
  first | refine q_eqN0 (by omega) (fun hh => absurd hh (by omega)) (fun hh => ?_) | refine q_eqI0 (fun hh => absurd hh (by omega)) (fun hh => ?_)
  refine q_5 rfl ?_
  refine q_47 (mj_ev_mono _) [] rfl rfl rfl (by decide) rfl rfl rfl ?_
  refine s_177G hX.g ?_
  first | refine q_eqN0 (by omega) (fun hh => absurd hh (by omega)) (fun hh => ?_) | refine q_eqI0 (fun hh => absurd hh (by omega)) (fun hh => ?_)
  refine q_0 ?_
  refine q_6 rfl rfl rfl ?_
  exact op_nots (I := I) (L := L) (j := j) (W := W) (dp := dp) (ts := ts) (O := O) hP (nts (tK b n) 7 j) (by omega) (fun i hi => nts_is hi) hend 0 (by omega) I' L' E EL hX hb _
theorem rl_2 (hP : PS t P) (h7 : nts (tK b n) 7 j = 7) (hF : FLm b n d Q P lo hi I L 2 (j + 6)) : OPm b n d Q P lo hi I L true j W dp ts O := by
  intro hb I' L' E EL hX x1 x4
  have h9 : ∀ i, i < 7 → tK b n (j + i) = 9 := fun i hi => nts_is (c := 7) (by omega)
  show mj_run (mj_ev (d + 4)) k189 (QO (d + 5) Q lo hi) (k189 4) [some (.ref 73), some (.int x1), some (.int (nI 1)), some (.int (nI 1)), x4] [] (107, I', L', P) 0 0
  have hend : ∀ I2 L2, Eqf (frm [86, 87, 88] XF4) I I2 → EqL (frm [] [(73, 21)]) L L2 → XS0 b n (j + 6) (List.replicate 6 3 ++ W) dp ts O I2 L2 → XB b n (j + 6) (List.replicate 6 3 ++ W) O → ∀ y1, mj_run (mj_ev (d + 4)) k189 (QO (d + 5) Q lo hi) (k189 18) [some (.ref 73), some (.int y1), some (.int (nI 1)), some (.int (nI 1)), some (.int (nI 6))] [] (107, I2, L2, P) 0 0 := by
    intro I2 L2 E2 EL2 hX2 hb2 y1
    have k9 := h9 6 (by omega)
    have E3 : Eqf (frm [] [(73, 11), (73, 12)]) I2 (mj_upI (mj_upI I2 73 11 (nI 2)) 73 12 (nI (tB b n (j + 6)))) := (Eqf.rf.up rfl).up rfl
    have hX3 := hX2.flt0 hb2 (c := 2) (by omega) E3 rfl rfl
    have g11 : mj_upI (mj_upI I2 73 11 (nI 2)) 73 12 (nI (tB b n (j + 6))) 73 11 = nI 2 := rfl
    refine q_5 rfl ?_
    refine q_47 (mj_ev_mono _) [] rfl rfl rfl (by decide) rfl rfl rfl ?_
    first | refine s_177G hX2.g ?_ | refine s_177B g11 (by omega) (by omega) ?_
    first | refine q_eqN0 (by omega) (fun hh => absurd hh (by omega)) (fun hh => ?_) | skip
    refine q_3 rfl ?_
    first | refine q_eqN0 (by omega) (fun hh => absurd hh (by omega)) (fun hh => ?_) | refine q_eqI0 (fun hh => absurd hh (by omega)) (fun hh => ?_)
    refine q_5 rfl ?_
    refine q_47 (mj_ev_mono _) [] rfl rfl rfl (by decide) rfl rfl rfl ?_
    refine s_175 hP hX2.tm hX2.n7 ?_
    rw [k9, show mI (mk 9) = nI 18 from rfl]
    refine q_0 ?_
    refine q_neN (by omega) (by omega) (fun hh => absurd hh (by omega)) (fun hh => ?_)
    refine q_3 rfl ?_
    refine q_0 ?_
    refine q_neN (by omega) (by omega) (fun hh => absurd hh (by omega)) (fun hh => ?_)
    refine q_5 rfl ?_
    refine q_0 ?_
    refine q_47 (mj_ev_mono _) [_] rfl rfl rfl (by decide) rfl rfl rfl ?_
    refine s_176G hX2.g hX2.tm.2.2.1 ?_
    first | refine q_inc rfl rfl rfl ?_ | refine q_9 rfl rfl rfl ?_
    refine q_5 rfl ?_
    refine q_47 (mj_ev_mono _) [] rfl rfl rfl (by decide) rfl rfl rfl ?_
    refine s_177B g11 (by omega) (by omega) ?_
    first | refine q_neN0 (by omega) (fun hh => absurd hh (by omega)) (fun hh => ?_) | refine q_neI0 (fun hh => absurd hh (by omega)) (fun hh => ?_)
    refine q_23 ?_
    refine q_5 rfl ?_
    refine q_47 (mj_ev_mono _) [] rfl rfl rfl (by decide) rfl rfl rfl ?_
    refine s_177B g11 (by omega) (by omega) ?_
    refine q_eqN0 (by omega) (fun _ => ?_) (fun hh => absurd rfl hh)
    refine q_5 rfl ?_
    refine q_47 (mj_ev_mono _) [] rfl rfl rfl (by decide) rfl rfl rfl ?_
    refine s_177B g11 (by omega) (by omega) ?_
    refine q_eqN0 (by omega) (fun _ => ?_) (fun hh => absurd rfl hh)
    refine q_0 ?_
    refine q_6 rfl rfl rfl ?_
    refine q_3 rfl ?_
    refine q_eqN0 (by omega) (fun _ => ?_) (fun hh => absurd rfl hh)
    refine q_23 ?_
    refine q_3 rfl ?_
    refine q_eqN0 (by omega) (fun _ => ?_) (fun hh => absurd rfl hh)
    exact op_120 hX3 (fl_hr hF (E2.tr (E3.to rfl rfl)) EL2 hX3) _ _ _ _
  refine q_3 rfl ?_
  first | refine q_eqN0 (by omega) (fun hh => absurd hh (by omega)) (fun hh => ?_) | refine q_eqI0 (fun hh => absurd hh (by omega)) (fun hh => ?_)
  refine q_5 rfl ?_
  refine q_47 (mj_ev_mono _) [] rfl rfl rfl (by decide) rfl rfl rfl ?_
  refine s_177G hX.g ?_
  first | refine q_eqN0 (by omega) (fun hh => absurd hh (by omega)) (fun hh => ?_) | refine q_eqI0 (fun hh => absurd hh (by omega)) (fun hh => ?_)
  refine q_0 ?_
  refine q_6 rfl rfl rfl ?_
  exact op_nots (I := I) (L := L) (j := j) (W := W) (dp := dp) (ts := ts) (O := O) hP 6 (by omega) (fun i hi => h9 i (by omega)) hend 0 (by omega) I' L' E EL hX hb _
theorem rl_3 (h : ONm b n d Q P lo hi I L j W dp ts O) : OPm b n d Q P lo hi I L false j W dp ts O := by
  intro hb I' L' E EL hX x1 x4
  show mj_run (mj_ev (d + 4)) k189 (QO (d + 5) Q lo hi) (k189 4) [some (.ref 73), some (.int x1), some (.int (nI 0)), some (.int (nI 1)), x4] [] (107, I', L', P) 0 0
  refine q_3 rfl ?_
  first | refine q_eqN0 (by omega) (fun hh => absurd hh (by omega)) (fun hh => ?_) | refine q_eqI0 (fun hh => absurd hh (by omega)) (fun hh => ?_)
  refine q_5 rfl ?_
  refine q_47 (mj_ev_mono _) [] rfl rfl rfl (by decide) rfl rfl rfl ?_
  refine s_177G hX.g ?_
  first | refine q_eqN0 (by omega) (fun hh => absurd hh (by omega)) (fun hh => ?_) | refine q_eqI0 (fun hh => absurd hh (by omega)) (fun hh => ?_)
  refine q_0 ?_
  refine q_6 rfl rfl rfl ?_
  refine q_5 rfl ?_
  refine q_47 (mj_ev_mono _) [] rfl rfl rfl (by decide) rfl rfl rfl ?_
  refine s_177G hX.g ?_
  first | refine q_eqN0 (by omega) (fun hh => absurd hh (by omega)) (fun hh => ?_) | refine q_eqI0 (fun hh => absurd hh (by omega)) (fun hh => ?_)
  refine q_3 rfl ?_
  first | refine q_eqN0 (by omega) (fun hh => ?_) (fun hh => absurd hh (by omega)) | refine q_eqI0 (fun hh => ?_) (fun hh => absurd (by omega) hh)
  exact h hb I' L' E EL hX _ _ _ _
theorem rl_4 (hP : PS t P) (hk : tK b n j = 20) (hd : tD b n j ≤ 4) (h : HDm b n d Q P lo hi I L (j + 1) W dp ts (O ++ [1, tV b n j])) : ONm b n d Q P lo hi I L j W dp ts O := by
  intro hb I' L' E EL hX
  exact op_part hX (by omega) (s_187n hP hX hb hk hd (fun I2 L2 e2 eL2 hX2 => ⟨rfl, h (hb.go (by omega) (by rw [List.length_append]; show O.length + 2 + W.length ≤ _; omega) (by omega)) I2 L2 (E.tr (e2.to rfl rfl)) (EL.tr eL2) hX2⟩))
theorem rl_5 (hP : PS t P) (hk : tK b n j = 20) (hd : 4 < tD b n j) (h : FLm b n d Q P lo hi I L 2 j) : ONm b n d Q P lo hi I L j W dp ts O := by
  intro hb I' L' E EL hX
  exact op_part hX (by omega) (s_187nF hP hX hb hk hd (fun I2 e2 hX2 => ⟨rfl, fl_hr h (E.tr (e2.to rfl rfl)) EL hX2⟩))
theorem rl_6 {v : Nat} (hP : PS t P) (h26 : I 73 26 = nI lo) (h27 : I 73 27 = nI hi) (hi9 : hi < 100) (hk : tK b n j ≤ 19) (hm : mk (tK b n j) = some v) (h1 : lo ≤ v) (h2 : v ≤ hi) (h : HDm b n d Q P lo hi I L (j + 1) W dp ts (O ++ [2, v])) : ONm b n d Q P lo hi I L j W dp ts O := by
  intro hb I' L' E EL hX
  exact op_part hX (by omega) (s_187v hP hX hb hk hm ((E 73 26 rfl).trans h26) ((E 73 27 rfl).trans h27) h1 h2 hi9 (fun I2 L2 e2 eL2 hX2 => ⟨rfl, h (hb.go (by omega) (by rw [List.length_append]; show O.length + 2 + W.length ≤ _; omega) (by omega)) I2 L2 (E.tr (e2.to rfl rfl)) (EL.tr eL2) hX2⟩))
theorem rl_7 (hP : PS t P) (h26 : I 73 26 = nI lo) (h27 : I 73 27 = nI hi) (lo9 : lo < 100) (hi9 : hi < 100) (hk : tK b n j ≤ 19) (hm : ∀ v, mk (tK b n j) = some v → ¬ (lo ≤ v ∧ v ≤ hi)) (h : FLm b n d Q P lo hi I L 3 j) : ONm b n d Q P lo hi I L j W dp ts O := by
  intro hb I' L' E EL hX
  exact op_part hX (by omega) (s_187vF hP hX hb hk hm ((E 73 26 rfl).trans h26) ((E 73 27 rfl).trans h27) lo9 hi9 (fun I2 e2 hX2 => ⟨rfl, fl_hr h (E.tr (e2.to rfl rfl)) EL hX2⟩))
theorem rl_8 (hP : PS t P) (hk : 20 < tK b n j) (h40 : tK b n j ≠ 40) (h : FLm b n d Q P lo hi I L 1 j) : ONm b n d Q P lo hi I L j W dp ts O := by
  intro hb I' L' E EL hX
  exact op_part hX h40 (s_187b hP hX hb hk (fun I2 e2 hX2 => ⟨rfl, fl_hr h (E.tr (e2.to rfl rfl)) EL hX2⟩))
theorem rl_9 (hP : PS t P) (hk : tK b n j = 40) (hd : dp < 6) (h : OPm b n d Q P lo hi I L true (j + 1) (14 :: W) (dp + 1) (fun i => if i = dp + 1 then false else ts i) O) : ONm b n d Q P lo hi I L j W dp ts O := by
  intro hb I' L' E EL hX x1 x2 x3 x4
  have tp := hb.top hX.n7
  refine q_5 rfl ?_
  refine q_47 (mj_ev_mono _) [] rfl rfl rfl (by decide) rfl rfl rfl ?_
  refine s_177G hX.g ?_
  first | refine q_eqN0 (by omega) (fun hh => absurd hh (by omega)) (fun hh => ?_) | refine q_eqI0 (fun hh => absurd hh (by omega)) (fun hh => ?_)
  refine q_5 rfl ?_
  refine q_0 ?_
  refine q_47 (mj_ev_mono _) [_] rfl rfl rfl (by decide) rfl rfl rfl ?_
  refine s_178T hX.tm hX.mb (by omega) hk ?_
  first | refine q_eqN0 (by omega) (fun hh => absurd hh (by omega)) (fun hh => ?_) | refine q_eqI0 (fun hh => absurd hh (by omega)) (fun hh => ?_)
  refine q_0 ?_
  refine q_23 ?_
  refine q_6 rfl rfl rfl ?_
  refine q_3 rfl ?_
  first | refine q_eqN0 (by omega) (fun hh => absurd hh (by omega)) (fun hh => ?_) | refine q_eqI0 (fun hh => absurd hh (by omega)) (fun hh => ?_)
  refine q_5 rfl ?_
  refine q_0 ?_
  refine q_47 (mj_ev_mono _) [_] rfl rfl rfl (by decide) rfl rfl rfl ?_
  refine s_186 hP hX.2.2.2.1.1 hX.2.2.2.1.2.1 (by omega) (fun I1 e1 f1 f2 => ?_)
  have hX1 := hX.push (v := 14) ⟨by omega, by omega⟩ e1 f1 f2
  refine q_5 rfl ?_
  refine q_47 (mj_ev_mono _) [] rfl rfl rfl (by decide) rfl rfl rfl ?_
  refine s_172 (j := j + 1) hP hX1.mb hX1.tm.1 (fun I2 L2 e2 eL hT => ?_)
  have hX2 := hX1.go e2 hT
  refine q_5 rfl ?_
  refine q_47 (mj_ev_mono _) [] rfl rfl rfl (by decide) rfl rfl rfl ?_
  refine s_188 hP hX2 hd (fun I3 e3 hX3 => ?_)
  refine q_0 ?_
  refine q_6 rfl rfl rfl ?_
  refine q_23 ?_
  exact h (hb.go (by omega) (by rw [List.length_cons]; omega) (by rw [List.length_cons]; omega)) I3 L2 (((E.tr (e1.to rfl rfl)).tr (e2.to rfl rfl)).tr (e3.to rfl rfl)) (EL.tr eL) hX3 _ _
theorem rl_10 (hP : PS t P) (hk : tK b n j = 40) (hd : dp = 6) (h : FLm b n d Q P lo hi I L (if tK b n (j + 1) ≤ 20 ∨ tK b n (j + 1) = 40 then 2 else 1) (j + 1)) : ONm b n d Q P lo hi I L j W dp ts O := by
  intro hb I' L' E EL hX x1 x2 x3 x4
  have tp := hb.top hX.n7
  refine q_5 rfl ?_
  refine q_47 (mj_ev_mono _) [] rfl rfl rfl (by decide) rfl rfl rfl ?_
  refine s_177G hX.g ?_
  first | refine q_eqN0 (by omega) (fun hh => absurd hh (by omega)) (fun hh => ?_) | refine q_eqI0 (fun hh => absurd hh (by omega)) (fun hh => ?_)
  refine q_5 rfl ?_
  refine q_0 ?_
  refine q_47 (mj_ev_mono _) [_] rfl rfl rfl (by decide) rfl rfl rfl ?_
  refine s_178T hX.tm hX.mb (by omega) hk ?_
  first | refine q_eqN0 (by omega) (fun hh => absurd hh (by omega)) (fun hh => ?_) | refine q_eqI0 (fun hh => absurd hh (by omega)) (fun hh => ?_)
  refine q_0 ?_
  refine q_23 ?_
  refine q_6 rfl rfl rfl ?_
  refine q_3 rfl ?_
  first | refine q_eqN0 (by omega) (fun hh => absurd hh (by omega)) (fun hh => ?_) | refine q_eqI0 (fun hh => absurd hh (by omega)) (fun hh => ?_)
  refine q_5 rfl ?_
  refine q_0 ?_
  refine q_47 (mj_ev_mono _) [_] rfl rfl rfl (by decide) rfl rfl rfl ?_
  refine s_186 hP hX.2.2.2.1.1 hX.2.2.2.1.2.1 (by omega) (fun I1 e1 f1 f2 => ?_)
  have hX1 := hX.push (v := 14) ⟨by omega, by omega⟩ e1 f1 f2
  refine q_5 rfl ?_
  refine q_47 (mj_ev_mono _) [] rfl rfl rfl (by decide) rfl rfl rfl ?_
  refine s_172 (j := j + 1) hP hX1.mb hX1.tm.1 (fun I2 L2 e2 eL hT => ?_)
  have hX2 := hX1.go e2 hT
  refine q_5 rfl ?_
  refine q_47 (mj_ev_mono _) [] rfl rfl rfl (by decide) rfl rfl rfl ?_
  refine s_188F hP hX2 (hb.go (by omega) (by rw [List.length_cons]; omega) (by rw [List.length_cons]; omega)) hd (fun I3 e3 hX3 => ?_)
  obtain ⟨c0, c9, g11, -⟩ := id hX3
  refine q_0 ?_
  refine q_6 rfl rfl rfl ?_
  refine q_23 ?_
  refine q_3 rfl ?_
  refine q_eqN0 (by omega) (fun hh => absurd hh (by omega)) (fun hh => ?_)
  refine q_5 rfl ?_
  refine q_47 (mj_ev_mono _) [] rfl rfl rfl (by decide) rfl rfl rfl ?_
  refine s_177B g11 c0 c9 ?_
  refine q_eqN0 (by omega) (fun _ => ?_) (fun hh => absurd rfl hh)
  exact op_120 hX3 (fl_hr h (((E.tr (e1.to rfl rfl)).tr (e2.to rfl rfl)).tr (e3.to rfl rfl)) (EL.tr eL) hX3) _ _ _ _
theorem rl_and (hP : PS t P) (hk : tK b n j = 8) (h : OPm b n d Q P lo hi I L true (j + 1) (4 :: dpr 2 W) dp (fun i => if i = dp then false else ts i) (O ++ dpd 2 W)) : HDm b n d Q P lo hi I L j W dp ts O := by
  intro hb I' L' E EL hX y4
  have tp := hb.top hX.n7
  have dl := dp_len (l := 2) W
  refine q_3 rfl ?_
  first | refine q_eqN0 (by omega) (fun hh => absurd hh (by omega)) (fun hh => ?_) | refine q_eqI0 (fun hh => absurd hh (by omega)) (fun hh => ?_)
  refine q_5 rfl ?_
  refine q_47 (mj_ev_mono _) [] rfl rfl rfl (by decide) rfl rfl rfl ?_
  refine s_177G hX.g ?_
  first | refine q_eqN0 (by omega) (fun hh => absurd hh (by omega)) (fun hh => ?_) | refine q_eqI0 (fun hh => absurd hh (by omega)) (fun hh => ?_)
  refine q_5 rfl ?_
  refine q_47 (mj_ev_mono _) [] rfl rfl rfl (by decide) rfl rfl rfl ?_
  refine s_175 hP hX.tm hX.n7 ?_
  rw [hk, show mI (mk 8) = nI 16 from rfl]
  refine q_6 rfl rfl rfl ?_
  refine q_3 rfl ?_
  refine q_0 ?_
  refine q_eqN (by omega) (by omega) (fun hh => ?_) (fun hh => absurd hh (by omega))
  refine q_5 rfl ?_
  refine q_3 rfl ?_
  refine q_0 ?_
  refine q_neN (by omega) (by omega) (fun hh => absurd hh (by omega)) (fun hh => ?_)
  refine q_0 ?_
  refine q_23 ?_
  refine q_47 (mj_ev_mono _) [_] rfl rfl rfl (by decide) rfl rfl rfl ?_
  refine s_185 (l := 2) hP (by omega) hX.2.2.2.1.1 hX.2.2.2.1.2.1 hX.2.2.2.1.2.2 hX.2.2.2.2.2.1 hX.2.2.2.2.2.2 (by omega) (by omega) (fun I1 e1 f1 f2 f3 => ?_)
  have hX1 := hX.drop e1 f1 f2 f3
  refine q_5 rfl ?_
  refine q_3 rfl ?_
  refine q_0 ?_
  refine q_neN (by omega) (by omega) (fun hh => absurd hh (by omega)) (fun hh => ?_)
  refine q_0 ?_
  refine q_23 ?_
  refine q_47 (mj_ev_mono _) [_] rfl rfl rfl (by decide) rfl rfl rfl ?_
  refine s_186 hP hX1.2.2.2.1.1 hX1.2.2.2.1.2.1 (by omega) (fun I2 e2 f4 f5 => ?_)
  have hX2 := hX1.push (v := 4) ⟨by omega, by omega⟩ e2 f4 f5
  have g29 := hX2.2.2.2.2.1.1
  have d6 := hX2.2.2.2.2.1.2.2.1
  refine q_5 rfl ?_
  refine q_33 rfl (by decide) (hP _ _ _ rfl) ?_
  refine q_5 rfl ?_
  first | refine q_31E rfl (by decide) g29 ?_ | refine q_31 rfl (by decide) ?_
  refine q_0 ?_
  refine q_45 _ rfl (by decide) rfl (by show _ < 9; omega) (by decide) ?_
  have hX3 := hX2.tst (v := false)
  refine q_5 rfl ?_
  refine q_47 (mj_ev_mono _) [] rfl rfl rfl (by decide) rfl rfl rfl ?_
  refine s_172 (j := j + 1) hP hX3.mb hX3.tm.1 (fun I4 L4 e4 eL hT => ?_)
  have hX4 := hX3.go e4 hT
  refine q_5 rfl ?_
  refine q_0 ?_
  refine q_47 (mj_ev_mono _) [_] rfl rfl rfl (by decide) rfl rfl rfl ?_
  refine op_call (mn := true) (fun x1 x4 => h (hb.go (by omega) (by rw [List.length_cons, List.length_append]; omega) (by rw [List.length_cons]; omega)) I4 L4 ((((E.tr (e1.to rfl rfl)).tr (e2.to rfl rfl)).up rfl).tr (e4.to rfl rfl)) (EL.tr eL) hX4 x1 x4) (fun σ hh2 => q_23 (q_23 (hh2 _)))
  skip
theorem rl_or (hP : PS t P) (hk : tK b n j = 7) (h : OPm b n d Q P lo hi I L true (j + 1) (5 :: dpr 1 W) dp (fun i => if i = dp then false else ts i) (O ++ dpd 1 W)) : HDm b n d Q P lo hi I L j W dp ts O := by
  intro hb I' L' E EL hX y4
  have tp := hb.top hX.n7
  have dl := dp_len (l := 1) W
  refine q_3 rfl ?_
  first | refine q_eqN0 (by omega) (fun hh => absurd hh (by omega)) (fun hh => ?_) | refine q_eqI0 (fun hh => absurd hh (by omega)) (fun hh => ?_)
  refine q_5 rfl ?_
  refine q_47 (mj_ev_mono _) [] rfl rfl rfl (by decide) rfl rfl rfl ?_
  refine s_177G hX.g ?_
  first | refine q_eqN0 (by omega) (fun hh => absurd hh (by omega)) (fun hh => ?_) | refine q_eqI0 (fun hh => absurd hh (by omega)) (fun hh => ?_)
  refine q_5 rfl ?_
  refine q_47 (mj_ev_mono _) [] rfl rfl rfl (by decide) rfl rfl rfl ?_
  refine s_175 hP hX.tm hX.n7 ?_
  rw [hk, show mI (mk 7) = nI 17 from rfl]
  refine q_6 rfl rfl rfl ?_
  refine q_3 rfl ?_
  refine q_0 ?_
  refine q_eqN (by omega) (by omega) (fun hh => absurd hh (by omega)) (fun hh => ?_)
  refine q_3 rfl ?_
  refine q_0 ?_
  refine q_neN (by omega) (by omega) (fun hh => absurd hh (by omega)) (fun hh => ?_)
  refine q_5 rfl ?_
  refine q_3 rfl ?_
  refine q_0 ?_
  refine q_neN (by omega) (by omega) (fun hh => ?_) (fun hh => absurd hh (by omega))
  refine q_0 ?_
  refine q_47 (mj_ev_mono _) [_] rfl rfl rfl (by decide) rfl rfl rfl ?_
  refine s_185 (l := 1) hP (by omega) hX.2.2.2.1.1 hX.2.2.2.1.2.1 hX.2.2.2.1.2.2 hX.2.2.2.2.2.1 hX.2.2.2.2.2.2 (by omega) (by omega) (fun I1 e1 f1 f2 f3 => ?_)
  have hX1 := hX.drop e1 f1 f2 f3
  refine q_5 rfl ?_
  refine q_3 rfl ?_
  refine q_0 ?_
  refine q_neN (by omega) (by omega) (fun hh => ?_) (fun hh => absurd hh (by omega))
  refine q_0 ?_
  refine q_47 (mj_ev_mono _) [_] rfl rfl rfl (by decide) rfl rfl rfl ?_
  refine s_186 hP hX1.2.2.2.1.1 hX1.2.2.2.1.2.1 (by omega) (fun I2 e2 f4 f5 => ?_)
  have hX2 := hX1.push (v := 5) ⟨by omega, by omega⟩ e2 f4 f5
  have g29 := hX2.2.2.2.2.1.1
  have d6 := hX2.2.2.2.2.1.2.2.1
  refine q_5 rfl ?_
  refine q_33 rfl (by decide) (hP _ _ _ rfl) ?_
  refine q_5 rfl ?_
  first | refine q_31E rfl (by decide) g29 ?_ | refine q_31 rfl (by decide) ?_
  refine q_0 ?_
  refine q_45 _ rfl (by decide) rfl (by show _ < 9; omega) (by decide) ?_
  have hX3 := hX2.tst (v := false)
  refine q_5 rfl ?_
  refine q_47 (mj_ev_mono _) [] rfl rfl rfl (by decide) rfl rfl rfl ?_
  refine s_172 (j := j + 1) hP hX3.mb hX3.tm.1 (fun I4 L4 e4 eL hT => ?_)
  have hX4 := hX3.go e4 hT
  refine q_5 rfl ?_
  refine q_0 ?_
  refine q_47 (mj_ev_mono _) [_] rfl rfl rfl (by decide) rfl rfl rfl ?_
  refine op_call (mn := true) (fun x1 x4 => h (hb.go (by omega) (by rw [List.length_cons, List.length_append]; omega) (by rw [List.length_cons]; omega)) I4 L4 ((((E.tr (e1.to rfl rfl)).tr (e2.to rfl rfl)).up rfl).tr (e4.to rfl rfl)) (EL.tr eL) hX4 x1 x4) (fun σ hh2 => q_23 (q_23 (hh2 _)))
  skip
theorem rl_lt (hP : PS t P) (hk : tK b n j = 60) (hts : ts dp = false) (h : OPm b n d Q P lo hi I L false (j + 1) (6 :: dpr 4 W) dp (fun i => if i = dp then true else ts i) (O ++ dpd 4 W)) : HDm b n d Q P lo hi I L j W dp ts O := by
  intro hb I' L' E EL hX y4
  have tp := hb.top hX.n7
  have dl := dp_len (l := 4) W
  have z29 := hX.2.2.2.2.1.1
  have z6 := hX.2.2.2.2.1.2.2.1
  have z88 : I' 88 dp = nI 0 := by have := hX.2.2.2.2.1.2.2.2 dp hX.2.2.2.2.1.2.1 (Nat.le_refl _); rw [hts] at this; exact this
  refine q_3 rfl ?_
  first | refine q_eqN0 (by omega) (fun hh => absurd hh (by omega)) (fun hh => ?_) | refine q_eqI0 (fun hh => absurd hh (by omega)) (fun hh => ?_)
  refine q_5 rfl ?_
  refine q_47 (mj_ev_mono _) [] rfl rfl rfl (by decide) rfl rfl rfl ?_
  refine s_177G hX.g ?_
  first | refine q_eqN0 (by omega) (fun hh => absurd hh (by omega)) (fun hh => ?_) | refine q_eqI0 (fun hh => absurd hh (by omega)) (fun hh => ?_)
  refine q_5 rfl ?_
  refine q_47 (mj_ev_mono _) [] rfl rfl rfl (by decide) rfl rfl rfl ?_
  refine s_175 hP hX.tm hX.n7 ?_
  rw [hk, show mI (mk 60) = -(nI 1) from rfl]
  refine q_6 rfl rfl rfl ?_
  refine q_3 rfl ?_
  refine q_0 ?_
  refine q_eqI (fun z => absurd z (by decide)) (fun _ => ?_)
  refine q_3 rfl ?_
  refine q_0 ?_
  refine q_neI (fun _ => ?_) (fun z => absurd (by decide) z)
  refine q_5 rfl ?_
  refine q_0 ?_
  refine q_47 (mj_ev_mono _) [_] rfl rfl rfl (by decide) rfl rfl rfl ?_
  first | refine s_178T hX.tm hX.mb (by omega) (by omega) ?_ | refine s_178F hX.tm hX.mb (by omega) (by omega) ?_
  first | refine q_neN0 (by omega) (fun hh => ?_) (fun hh => absurd hh (by omega)) | refine q_neI0 (fun hh => ?_) (fun hh => absurd (by omega) hh)
  refine q_5 rfl ?_
  refine q_33 rfl (by decide) (hP _ _ _ rfl) ?_
  refine q_5 rfl ?_
  first | refine q_31E rfl (by decide) z29 ?_ | refine q_31E rfl (by decide) g29 ?_ | refine q_31 rfl (by decide) ?_
  first | refine q_41E _ rfl (by decide) rfl (by show _ < 9; omega) (by decide) (z88) ?_ | refine q_41 _ rfl (by decide) rfl (by show _ < 9; omega) (by decide) ?_
  first | refine q_neN0 (by omega) (fun hh => absurd hh (by omega)) (fun hh => ?_) | refine q_neI0 (fun hh => absurd hh (by omega)) (fun hh => ?_)
  refine q_5 rfl ?_
  refine q_0 ?_
  refine q_47 (mj_ev_mono _) [_] rfl rfl rfl (by decide) rfl rfl rfl ?_
  refine s_185 (l := 4) hP (by omega) hX.2.2.2.1.1 hX.2.2.2.1.2.1 hX.2.2.2.1.2.2 hX.2.2.2.2.2.1 hX.2.2.2.2.2.2 (by omega) (by omega) (fun I1 e1 f1 f2 f3 => ?_)
  have hX1 := hX.drop e1 f1 f2 f3
  refine q_5 rfl ?_
  refine q_5 rfl ?_
  refine q_0 ?_
  refine q_47 (mj_ev_mono _) [_] rfl rfl rfl (by decide) rfl rfl rfl ?_
  first | refine s_178T hX1.tm hX1.mb (by omega) (by omega) ?_ | refine s_178F hX1.tm hX1.mb (by omega) (by omega) ?_
  first | refine q_eqN0 (by omega) (fun hh => absurd hh (by omega)) (fun hh => ?_) | refine q_eqI0 (fun hh => absurd hh (by omega)) (fun hh => ?_)
  refine q_0 ?_
  refine q_23 ?_
  refine q_47 (mj_ev_mono _) [_] rfl rfl rfl (by decide) rfl rfl rfl ?_
  refine s_186 hP hX1.2.2.2.1.1 hX1.2.2.2.1.2.1 (by omega) (fun I2 e2 f4 f5 => ?_)
  have hX2 := hX1.push (v := 6) ⟨by omega, by omega⟩ e2 f4 f5
  have g29 := hX2.2.2.2.2.1.1
  have d6 := hX2.2.2.2.2.1.2.2.1
  refine q_5 rfl ?_
  refine q_33 rfl (by decide) (hP _ _ _ rfl) ?_
  refine q_5 rfl ?_
  first | refine q_31E rfl (by decide) z29 ?_ | refine q_31E rfl (by decide) g29 ?_ | refine q_31 rfl (by decide) ?_
  refine q_0 ?_
  refine q_45 _ rfl (by decide) rfl (by show _ < 9; omega) (by decide) ?_
  have hX3 := hX2.tst (v := true)
  refine q_5 rfl ?_
  refine q_47 (mj_ev_mono _) [] rfl rfl rfl (by decide) rfl rfl rfl ?_
  refine s_172 (j := j + 1) hP hX3.mb hX3.tm.1 (fun I4 L4 e4 eL hT => ?_)
  have hX4 := hX3.go e4 hT
  refine q_5 rfl ?_
  refine q_0 ?_
  refine q_47 (mj_ev_mono _) [_] rfl rfl rfl (by decide) rfl rfl rfl ?_
  refine op_call (mn := false) (fun x1 x4 => h (hb.go (by omega) (by rw [List.length_cons, List.length_append]; omega) (by rw [List.length_cons]; omega)) I4 L4 ((((E.tr (e1.to rfl rfl)).tr (e2.to rfl rfl)).up rfl).tr (e4.to rfl rfl)) (EL.tr eL) hX4 x1 x4) (fun σ hh2 => q_23 (q_23 (hh2 _)))
  skip
theorem rl_eq (hP : PS t P) (hk : tK b n j = 61) (hts : ts dp = false) (h : OPm b n d Q P lo hi I L false (j + 1) (7 :: dpr 4 W) dp (fun i => if i = dp then true else ts i) (O ++ dpd 4 W)) : HDm b n d Q P lo hi I L j W dp ts O := by
  intro hb I' L' E EL hX y4
  have tp := hb.top hX.n7
  have dl := dp_len (l := 4) W
  have z29 := hX.2.2.2.2.1.1
  have z6 := hX.2.2.2.2.1.2.2.1
  have z88 : I' 88 dp = nI 0 := by have := hX.2.2.2.2.1.2.2.2 dp hX.2.2.2.2.1.2.1 (Nat.le_refl _); rw [hts] at this; exact this
  refine q_3 rfl ?_
  first | refine q_eqN0 (by omega) (fun hh => absurd hh (by omega)) (fun hh => ?_) | refine q_eqI0 (fun hh => absurd hh (by omega)) (fun hh => ?_)
  refine q_5 rfl ?_
  refine q_47 (mj_ev_mono _) [] rfl rfl rfl (by decide) rfl rfl rfl ?_
  refine s_177G hX.g ?_
  first | refine q_eqN0 (by omega) (fun hh => absurd hh (by omega)) (fun hh => ?_) | refine q_eqI0 (fun hh => absurd hh (by omega)) (fun hh => ?_)
  refine q_5 rfl ?_
  refine q_47 (mj_ev_mono _) [] rfl rfl rfl (by decide) rfl rfl rfl ?_
  refine s_175 hP hX.tm hX.n7 ?_
  rw [hk, show mI (mk 61) = -(nI 1) from rfl]
  refine q_6 rfl rfl rfl ?_
  refine q_3 rfl ?_
  refine q_0 ?_
  refine q_eqI (fun z => absurd z (by decide)) (fun _ => ?_)
  refine q_3 rfl ?_
  refine q_0 ?_
  refine q_neI (fun _ => ?_) (fun z => absurd (by decide) z)
  refine q_5 rfl ?_
  refine q_0 ?_
  refine q_47 (mj_ev_mono _) [_] rfl rfl rfl (by decide) rfl rfl rfl ?_
  first | refine s_178T hX.tm hX.mb (by omega) (by omega) ?_ | refine s_178F hX.tm hX.mb (by omega) (by omega) ?_
  first | refine q_neN0 (by omega) (fun hh => absurd hh (by omega)) (fun hh => ?_) | refine q_neI0 (fun hh => absurd hh (by omega)) (fun hh => ?_)
  refine q_5 rfl ?_
  refine q_0 ?_
  refine q_47 (mj_ev_mono _) [_] rfl rfl rfl (by decide) rfl rfl rfl ?_
  first | refine s_178T hX.tm hX.mb (by omega) (by omega) ?_ | refine s_178F hX.tm hX.mb (by omega) (by omega) ?_
  first | refine q_eqN0 (by omega) (fun hh => absurd hh (by omega)) (fun hh => ?_) | refine q_eqI0 (fun hh => absurd hh (by omega)) (fun hh => ?_)
  refine q_5 rfl ?_
  refine q_33 rfl (by decide) (hP _ _ _ rfl) ?_
  refine q_5 rfl ?_
  first | refine q_31E rfl (by decide) z29 ?_ | refine q_31E rfl (by decide) g29 ?_ | refine q_31 rfl (by decide) ?_
  first | refine q_41E _ rfl (by decide) rfl (by show _ < 9; omega) (by decide) (z88) ?_ | refine q_41 _ rfl (by decide) rfl (by show _ < 9; omega) (by decide) ?_
  first | refine q_neN0 (by omega) (fun hh => absurd hh (by omega)) (fun hh => ?_) | refine q_neI0 (fun hh => absurd hh (by omega)) (fun hh => ?_)
  refine q_5 rfl ?_
  refine q_0 ?_
  refine q_47 (mj_ev_mono _) [_] rfl rfl rfl (by decide) rfl rfl rfl ?_
  refine s_185 (l := 4) hP (by omega) hX.2.2.2.1.1 hX.2.2.2.1.2.1 hX.2.2.2.1.2.2 hX.2.2.2.2.2.1 hX.2.2.2.2.2.2 (by omega) (by omega) (fun I1 e1 f1 f2 f3 => ?_)
  have hX1 := hX.drop e1 f1 f2 f3
  refine q_5 rfl ?_
  refine q_5 rfl ?_
  refine q_0 ?_
  refine q_47 (mj_ev_mono _) [_] rfl rfl rfl (by decide) rfl rfl rfl ?_
  first | refine s_178T hX1.tm hX1.mb (by omega) (by omega) ?_ | refine s_178F hX1.tm hX1.mb (by omega) (by omega) ?_
  first | refine q_eqN0 (by omega) (fun hh => ?_) (fun hh => absurd hh (by omega)) | refine q_eqI0 (fun hh => ?_) (fun hh => absurd (by omega) hh)
  refine q_0 ?_
  refine q_47 (mj_ev_mono _) [_] rfl rfl rfl (by decide) rfl rfl rfl ?_
  refine s_186 hP hX1.2.2.2.1.1 hX1.2.2.2.1.2.1 (by omega) (fun I2 e2 f4 f5 => ?_)
  have hX2 := hX1.push (v := 7) ⟨by omega, by omega⟩ e2 f4 f5
  have g29 := hX2.2.2.2.2.1.1
  have d6 := hX2.2.2.2.2.1.2.2.1
  refine q_5 rfl ?_
  refine q_33 rfl (by decide) (hP _ _ _ rfl) ?_
  refine q_5 rfl ?_
  first | refine q_31E rfl (by decide) z29 ?_ | refine q_31E rfl (by decide) g29 ?_ | refine q_31 rfl (by decide) ?_
  refine q_0 ?_
  refine q_45 _ rfl (by decide) rfl (by show _ < 9; omega) (by decide) ?_
  have hX3 := hX2.tst (v := true)
  refine q_5 rfl ?_
  refine q_47 (mj_ev_mono _) [] rfl rfl rfl (by decide) rfl rfl rfl ?_
  refine s_172 (j := j + 1) hP hX3.mb hX3.tm.1 (fun I4 L4 e4 eL hT => ?_)
  have hX4 := hX3.go e4 hT
  refine q_5 rfl ?_
  refine q_0 ?_
  refine q_47 (mj_ev_mono _) [_] rfl rfl rfl (by decide) rfl rfl rfl ?_
  refine op_call (mn := false) (fun x1 x4 => h (hb.go (by omega) (by rw [List.length_cons, List.length_append]; omega) (by rw [List.length_cons]; omega)) I4 L4 ((((E.tr (e1.to rfl rfl)).tr (e2.to rfl rfl)).up rfl).tr (e4.to rfl rfl)) (EL.tr eL) hX4 x1 x4) (fun σ hh2 => q_23 (q_23 (hh2 _)))
  skip
theorem rl_plus (hP : PS t P) (hk : tK b n j = 43) (h : OPm b n d Q P lo hi I L false (j + 1) (8 :: dpr 5 W) dp ts (O ++ dpd 5 W)) : HDm b n d Q P lo hi I L j W dp ts O := by
  intro hb I' L' E EL hX y4
  have tp := hb.top hX.n7
  have dl := dp_len (l := 5) W
  refine q_3 rfl ?_
  first | refine q_eqN0 (by omega) (fun hh => absurd hh (by omega)) (fun hh => ?_) | refine q_eqI0 (fun hh => absurd hh (by omega)) (fun hh => ?_)
  refine q_5 rfl ?_
  refine q_47 (mj_ev_mono _) [] rfl rfl rfl (by decide) rfl rfl rfl ?_
  refine s_177G hX.g ?_
  first | refine q_eqN0 (by omega) (fun hh => absurd hh (by omega)) (fun hh => ?_) | refine q_eqI0 (fun hh => absurd hh (by omega)) (fun hh => ?_)
  refine q_5 rfl ?_
  refine q_47 (mj_ev_mono _) [] rfl rfl rfl (by decide) rfl rfl rfl ?_
  refine s_175 hP hX.tm hX.n7 ?_
  rw [hk, show mI (mk 43) = -(nI 1) from rfl]
  refine q_6 rfl rfl rfl ?_
  refine q_3 rfl ?_
  refine q_0 ?_
  refine q_eqI (fun z => absurd z (by decide)) (fun _ => ?_)
  refine q_3 rfl ?_
  refine q_0 ?_
  refine q_neI (fun _ => ?_) (fun z => absurd (by decide) z)
  refine q_5 rfl ?_
  refine q_0 ?_
  refine q_47 (mj_ev_mono _) [_] rfl rfl rfl (by decide) rfl rfl rfl ?_
  first | refine s_178T hX.tm hX.mb (by omega) (by omega) ?_ | refine s_178F hX.tm hX.mb (by omega) (by omega) ?_
  first | refine q_neN0 (by omega) (fun hh => absurd hh (by omega)) (fun hh => ?_) | refine q_neI0 (fun hh => absurd hh (by omega)) (fun hh => ?_)
  refine q_5 rfl ?_
  refine q_0 ?_
  refine q_47 (mj_ev_mono _) [_] rfl rfl rfl (by decide) rfl rfl rfl ?_
  first | refine s_178T hX.tm hX.mb (by omega) (by omega) ?_ | refine s_178F hX.tm hX.mb (by omega) (by omega) ?_
  first | refine q_eqN0 (by omega) (fun hh => ?_) (fun hh => absurd hh (by omega)) | refine q_eqI0 (fun hh => ?_) (fun hh => absurd (by omega) hh)
  refine q_5 rfl ?_
  refine q_0 ?_
  refine q_47 (mj_ev_mono _) [_] rfl rfl rfl (by decide) rfl rfl rfl ?_
  first | refine s_178T hX.tm hX.mb (by omega) (by omega) ?_ | refine s_178F hX.tm hX.mb (by omega) (by omega) ?_
  first | refine q_neN0 (by omega) (fun hh => ?_) (fun hh => absurd hh (by omega)) | refine q_neI0 (fun hh => ?_) (fun hh => absurd (by omega) hh)
  refine q_5 rfl ?_
  refine q_0 ?_
  refine q_47 (mj_ev_mono _) [_] rfl rfl rfl (by decide) rfl rfl rfl ?_
  refine s_185 (l := 5) hP (by omega) hX.2.2.2.1.1 hX.2.2.2.1.2.1 hX.2.2.2.1.2.2 hX.2.2.2.2.2.1 hX.2.2.2.2.2.2 (by omega) (by omega) (fun I1 e1 f1 f2 f3 => ?_)
  have hX1 := hX.drop e1 f1 f2 f3
  refine q_5 rfl ?_
  refine q_5 rfl ?_
  refine q_0 ?_
  refine q_47 (mj_ev_mono _) [_] rfl rfl rfl (by decide) rfl rfl rfl ?_
  first | refine s_178T hX1.tm hX1.mb (by omega) (by omega) ?_ | refine s_178F hX1.tm hX1.mb (by omega) (by omega) ?_
  first | refine q_eqN0 (by omega) (fun hh => absurd hh (by omega)) (fun hh => ?_) | refine q_eqI0 (fun hh => absurd hh (by omega)) (fun hh => ?_)
  refine q_0 ?_
  refine q_23 ?_
  refine q_47 (mj_ev_mono _) [_] rfl rfl rfl (by decide) rfl rfl rfl ?_
  refine s_186 hP hX1.2.2.2.1.1 hX1.2.2.2.1.2.1 (by omega) (fun I2 e2 f4 f5 => ?_)
  have hX2 := hX1.push (v := 8) ⟨by omega, by omega⟩ e2 f4 f5
  refine q_5 rfl ?_
  refine q_47 (mj_ev_mono _) [] rfl rfl rfl (by decide) rfl rfl rfl ?_
  refine s_172 (j := j + 1) hP hX2.mb hX2.tm.1 (fun I4 L4 e4 eL hT => ?_)
  have hX4 := hX2.go e4 hT
  refine q_5 rfl ?_
  refine q_0 ?_
  refine q_47 (mj_ev_mono _) [_] rfl rfl rfl (by decide) rfl rfl rfl ?_
  refine op_call (mn := false) (fun x1 x4 => h (hb.go (by omega) (by rw [List.length_cons, List.length_append]; omega) (by rw [List.length_cons]; omega)) I4 L4 (((E.tr (e1.to rfl rfl)).tr (e2.to rfl rfl)).tr (e4.to rfl rfl)) (EL.tr eL) hX4 x1 x4) (fun σ hh2 => q_23 (q_23 (hh2 _)))
  skip
theorem rl_minus (hP : PS t P) (hk : tK b n j = 45) (h : OPm b n d Q P lo hi I L false (j + 1) (9 :: dpr 5 W) dp ts (O ++ dpd 5 W)) : HDm b n d Q P lo hi I L j W dp ts O := by
  intro hb I' L' E EL hX y4
  have tp := hb.top hX.n7
  have dl := dp_len (l := 5) W
  refine q_3 rfl ?_
  first | refine q_eqN0 (by omega) (fun hh => absurd hh (by omega)) (fun hh => ?_) | refine q_eqI0 (fun hh => absurd hh (by omega)) (fun hh => ?_)
  refine q_5 rfl ?_
  refine q_47 (mj_ev_mono _) [] rfl rfl rfl (by decide) rfl rfl rfl ?_
  refine s_177G hX.g ?_
  first | refine q_eqN0 (by omega) (fun hh => absurd hh (by omega)) (fun hh => ?_) | refine q_eqI0 (fun hh => absurd hh (by omega)) (fun hh => ?_)
  refine q_5 rfl ?_
  refine q_47 (mj_ev_mono _) [] rfl rfl rfl (by decide) rfl rfl rfl ?_
  refine s_175 hP hX.tm hX.n7 ?_
  rw [hk, show mI (mk 45) = -(nI 1) from rfl]
  refine q_6 rfl rfl rfl ?_
  refine q_3 rfl ?_
  refine q_0 ?_
  refine q_eqI (fun z => absurd z (by decide)) (fun _ => ?_)
  refine q_3 rfl ?_
  refine q_0 ?_
  refine q_neI (fun _ => ?_) (fun z => absurd (by decide) z)
  refine q_5 rfl ?_
  refine q_0 ?_
  refine q_47 (mj_ev_mono _) [_] rfl rfl rfl (by decide) rfl rfl rfl ?_
  first | refine s_178T hX.tm hX.mb (by omega) (by omega) ?_ | refine s_178F hX.tm hX.mb (by omega) (by omega) ?_
  first | refine q_neN0 (by omega) (fun hh => absurd hh (by omega)) (fun hh => ?_) | refine q_neI0 (fun hh => absurd hh (by omega)) (fun hh => ?_)
  refine q_5 rfl ?_
  refine q_0 ?_
  refine q_47 (mj_ev_mono _) [_] rfl rfl rfl (by decide) rfl rfl rfl ?_
  first | refine s_178T hX.tm hX.mb (by omega) (by omega) ?_ | refine s_178F hX.tm hX.mb (by omega) (by omega) ?_
  first | refine q_eqN0 (by omega) (fun hh => ?_) (fun hh => absurd hh (by omega)) | refine q_eqI0 (fun hh => ?_) (fun hh => absurd (by omega) hh)
  refine q_5 rfl ?_
  refine q_0 ?_
  refine q_47 (mj_ev_mono _) [_] rfl rfl rfl (by decide) rfl rfl rfl ?_
  first | refine s_178T hX.tm hX.mb (by omega) (by omega) ?_ | refine s_178F hX.tm hX.mb (by omega) (by omega) ?_
  first | refine q_neN0 (by omega) (fun hh => absurd hh (by omega)) (fun hh => ?_) | refine q_neI0 (fun hh => absurd hh (by omega)) (fun hh => ?_)
  refine q_5 rfl ?_
  refine q_0 ?_
  refine q_47 (mj_ev_mono _) [_] rfl rfl rfl (by decide) rfl rfl rfl ?_
  first | refine s_178T hX.tm hX.mb (by omega) (by omega) ?_ | refine s_178F hX.tm hX.mb (by omega) (by omega) ?_
  first | refine q_eqN0 (by omega) (fun hh => absurd hh (by omega)) (fun hh => ?_) | refine q_eqI0 (fun hh => absurd hh (by omega)) (fun hh => ?_)
  refine q_5 rfl ?_
  refine q_0 ?_
  refine q_47 (mj_ev_mono _) [_] rfl rfl rfl (by decide) rfl rfl rfl ?_
  refine s_185 (l := 5) hP (by omega) hX.2.2.2.1.1 hX.2.2.2.1.2.1 hX.2.2.2.1.2.2 hX.2.2.2.2.2.1 hX.2.2.2.2.2.2 (by omega) (by omega) (fun I1 e1 f1 f2 f3 => ?_)
  have hX1 := hX.drop e1 f1 f2 f3
  refine q_5 rfl ?_
  refine q_5 rfl ?_
  refine q_0 ?_
  refine q_47 (mj_ev_mono _) [_] rfl rfl rfl (by decide) rfl rfl rfl ?_
  first | refine s_178T hX1.tm hX1.mb (by omega) (by omega) ?_ | refine s_178F hX1.tm hX1.mb (by omega) (by omega) ?_
  first | refine q_eqN0 (by omega) (fun hh => ?_) (fun hh => absurd hh (by omega)) | refine q_eqI0 (fun hh => ?_) (fun hh => absurd (by omega) hh)
  refine q_0 ?_
  refine q_47 (mj_ev_mono _) [_] rfl rfl rfl (by decide) rfl rfl rfl ?_
  refine s_186 hP hX1.2.2.2.1.1 hX1.2.2.2.1.2.1 (by omega) (fun I2 e2 f4 f5 => ?_)
  have hX2 := hX1.push (v := 9) ⟨by omega, by omega⟩ e2 f4 f5
  refine q_5 rfl ?_
  refine q_47 (mj_ev_mono _) [] rfl rfl rfl (by decide) rfl rfl rfl ?_
  refine s_172 (j := j + 1) hP hX2.mb hX2.tm.1 (fun I4 L4 e4 eL hT => ?_)
  have hX4 := hX2.go e4 hT
  refine q_5 rfl ?_
  refine q_0 ?_
  refine q_47 (mj_ev_mono _) [_] rfl rfl rfl (by decide) rfl rfl rfl ?_
  refine op_call (mn := false) (fun x1 x4 => h (hb.go (by omega) (by rw [List.length_cons, List.length_append]; omega) (by rw [List.length_cons]; omega)) I4 L4 (((E.tr (e1.to rfl rfl)).tr (e2.to rfl rfl)).tr (e4.to rfl rfl)) (EL.tr eL) hX4 x1 x4) (fun σ hh2 => q_23 (q_23 (hh2 _)))
  skip
theorem rl_times (hP : PS t P) (hk : tK b n j = 42) (h : OPm b n d Q P lo hi I L false (j + 1) (10 :: dpr 6 W) dp ts (O ++ dpd 6 W)) : HDm b n d Q P lo hi I L j W dp ts O := by
  intro hb I' L' E EL hX y4
  have tp := hb.top hX.n7
  have dl := dp_len (l := 6) W
  refine q_3 rfl ?_
  first | refine q_eqN0 (by omega) (fun hh => absurd hh (by omega)) (fun hh => ?_) | refine q_eqI0 (fun hh => absurd hh (by omega)) (fun hh => ?_)
  refine q_5 rfl ?_
  refine q_47 (mj_ev_mono _) [] rfl rfl rfl (by decide) rfl rfl rfl ?_
  refine s_177G hX.g ?_
  first | refine q_eqN0 (by omega) (fun hh => absurd hh (by omega)) (fun hh => ?_) | refine q_eqI0 (fun hh => absurd hh (by omega)) (fun hh => ?_)
  refine q_5 rfl ?_
  refine q_47 (mj_ev_mono _) [] rfl rfl rfl (by decide) rfl rfl rfl ?_
  refine s_175 hP hX.tm hX.n7 ?_
  rw [hk, show mI (mk 42) = -(nI 1) from rfl]
  refine q_6 rfl rfl rfl ?_
  refine q_3 rfl ?_
  refine q_0 ?_
  refine q_eqI (fun z => absurd z (by decide)) (fun _ => ?_)
  refine q_3 rfl ?_
  refine q_0 ?_
  refine q_neI (fun _ => ?_) (fun z => absurd (by decide) z)
  refine q_5 rfl ?_
  refine q_0 ?_
  refine q_47 (mj_ev_mono _) [_] rfl rfl rfl (by decide) rfl rfl rfl ?_
  first | refine s_178T hX.tm hX.mb (by omega) (by omega) ?_ | refine s_178F hX.tm hX.mb (by omega) (by omega) ?_
  first | refine q_neN0 (by omega) (fun hh => absurd hh (by omega)) (fun hh => ?_) | refine q_neI0 (fun hh => absurd hh (by omega)) (fun hh => ?_)
  refine q_5 rfl ?_
  refine q_0 ?_
  refine q_47 (mj_ev_mono _) [_] rfl rfl rfl (by decide) rfl rfl rfl ?_
  first | refine s_178T hX.tm hX.mb (by omega) (by omega) ?_ | refine s_178F hX.tm hX.mb (by omega) (by omega) ?_
  first | refine q_eqN0 (by omega) (fun hh => ?_) (fun hh => absurd hh (by omega)) | refine q_eqI0 (fun hh => ?_) (fun hh => absurd (by omega) hh)
  refine q_5 rfl ?_
  refine q_0 ?_
  refine q_47 (mj_ev_mono _) [_] rfl rfl rfl (by decide) rfl rfl rfl ?_
  first | refine s_178T hX.tm hX.mb (by omega) (by omega) ?_ | refine s_178F hX.tm hX.mb (by omega) (by omega) ?_
  first | refine q_neN0 (by omega) (fun hh => absurd hh (by omega)) (fun hh => ?_) | refine q_neI0 (fun hh => absurd hh (by omega)) (fun hh => ?_)
  refine q_5 rfl ?_
  refine q_0 ?_
  refine q_47 (mj_ev_mono _) [_] rfl rfl rfl (by decide) rfl rfl rfl ?_
  first | refine s_178T hX.tm hX.mb (by omega) (by omega) ?_ | refine s_178F hX.tm hX.mb (by omega) (by omega) ?_
  first | refine q_eqN0 (by omega) (fun hh => ?_) (fun hh => absurd hh (by omega)) | refine q_eqI0 (fun hh => ?_) (fun hh => absurd (by omega) hh)
  refine q_5 rfl ?_
  refine q_0 ?_
  refine q_47 (mj_ev_mono _) [_] rfl rfl rfl (by decide) rfl rfl rfl ?_
  first | refine s_178T hX.tm hX.mb (by omega) (by omega) ?_ | refine s_178F hX.tm hX.mb (by omega) (by omega) ?_
  first | refine q_neN0 (by omega) (fun hh => ?_) (fun hh => absurd hh (by omega)) | refine q_neI0 (fun hh => ?_) (fun hh => absurd (by omega) hh)
  refine q_5 rfl ?_
  refine q_0 ?_
  refine q_47 (mj_ev_mono _) [_] rfl rfl rfl (by decide) rfl rfl rfl ?_
  refine s_185 (l := 6) hP (by omega) hX.2.2.2.1.1 hX.2.2.2.1.2.1 hX.2.2.2.1.2.2 hX.2.2.2.2.2.1 hX.2.2.2.2.2.2 (by omega) (by omega) (fun I1 e1 f1 f2 f3 => ?_)
  have hX1 := hX.drop e1 f1 f2 f3
  refine q_5 rfl ?_
  refine q_5 rfl ?_
  refine q_0 ?_
  refine q_47 (mj_ev_mono _) [_] rfl rfl rfl (by decide) rfl rfl rfl ?_
  first | refine s_178T hX1.tm hX1.mb (by omega) (by omega) ?_ | refine s_178F hX1.tm hX1.mb (by omega) (by omega) ?_
  first | refine q_eqN0 (by omega) (fun hh => absurd hh (by omega)) (fun hh => ?_) | refine q_eqI0 (fun hh => absurd hh (by omega)) (fun hh => ?_)
  refine q_0 ?_
  refine q_23 ?_
  refine q_47 (mj_ev_mono _) [_] rfl rfl rfl (by decide) rfl rfl rfl ?_
  refine s_186 hP hX1.2.2.2.1.1 hX1.2.2.2.1.2.1 (by omega) (fun I2 e2 f4 f5 => ?_)
  have hX2 := hX1.push (v := 10) ⟨by omega, by omega⟩ e2 f4 f5
  refine q_5 rfl ?_
  refine q_47 (mj_ev_mono _) [] rfl rfl rfl (by decide) rfl rfl rfl ?_
  refine s_172 (j := j + 1) hP hX2.mb hX2.tm.1 (fun I4 L4 e4 eL hT => ?_)
  have hX4 := hX2.go e4 hT
  refine q_5 rfl ?_
  refine q_0 ?_
  refine q_47 (mj_ev_mono _) [_] rfl rfl rfl (by decide) rfl rfl rfl ?_
  refine op_call (mn := false) (fun x1 x4 => h (hb.go (by omega) (by rw [List.length_cons, List.length_append]; omega) (by rw [List.length_cons]; omega)) I4 L4 (((E.tr (e1.to rfl rfl)).tr (e2.to rfl rfl)).tr (e4.to rfl rfl)) (EL.tr eL) hX4 x1 x4) (fun σ hh2 => q_23 (q_23 (hh2 _)))
  skip
theorem rl_by (hP : PS t P) (hk : tK b n j = 47) (h : OPm b n d Q P lo hi I L false (j + 1) (11 :: dpr 6 W) dp ts (O ++ dpd 6 W)) : HDm b n d Q P lo hi I L j W dp ts O := by
  intro hb I' L' E EL hX y4
  have tp := hb.top hX.n7
  have dl := dp_len (l := 6) W
  refine q_3 rfl ?_
  first | refine q_eqN0 (by omega) (fun hh => absurd hh (by omega)) (fun hh => ?_) | refine q_eqI0 (fun hh => absurd hh (by omega)) (fun hh => ?_)
  refine q_5 rfl ?_
  refine q_47 (mj_ev_mono _) [] rfl rfl rfl (by decide) rfl rfl rfl ?_
  refine s_177G hX.g ?_
  first | refine q_eqN0 (by omega) (fun hh => absurd hh (by omega)) (fun hh => ?_) | refine q_eqI0 (fun hh => absurd hh (by omega)) (fun hh => ?_)
  refine q_5 rfl ?_
  refine q_47 (mj_ev_mono _) [] rfl rfl rfl (by decide) rfl rfl rfl ?_
  refine s_175 hP hX.tm hX.n7 ?_
  rw [hk, show mI (mk 47) = -(nI 1) from rfl]
  refine q_6 rfl rfl rfl ?_
  refine q_3 rfl ?_
  refine q_0 ?_
  refine q_eqI (fun z => absurd z (by decide)) (fun _ => ?_)
  refine q_3 rfl ?_
  refine q_0 ?_
  refine q_neI (fun _ => ?_) (fun z => absurd (by decide) z)
  refine q_5 rfl ?_
  refine q_0 ?_
  refine q_47 (mj_ev_mono _) [_] rfl rfl rfl (by decide) rfl rfl rfl ?_
  first | refine s_178T hX.tm hX.mb (by omega) (by omega) ?_ | refine s_178F hX.tm hX.mb (by omega) (by omega) ?_
  first | refine q_neN0 (by omega) (fun hh => absurd hh (by omega)) (fun hh => ?_) | refine q_neI0 (fun hh => absurd hh (by omega)) (fun hh => ?_)
  refine q_5 rfl ?_
  refine q_0 ?_
  refine q_47 (mj_ev_mono _) [_] rfl rfl rfl (by decide) rfl rfl rfl ?_
  first | refine s_178T hX.tm hX.mb (by omega) (by omega) ?_ | refine s_178F hX.tm hX.mb (by omega) (by omega) ?_
  first | refine q_eqN0 (by omega) (fun hh => ?_) (fun hh => absurd hh (by omega)) | refine q_eqI0 (fun hh => ?_) (fun hh => absurd (by omega) hh)
  refine q_5 rfl ?_
  refine q_0 ?_
  refine q_47 (mj_ev_mono _) [_] rfl rfl rfl (by decide) rfl rfl rfl ?_
  first | refine s_178T hX.tm hX.mb (by omega) (by omega) ?_ | refine s_178F hX.tm hX.mb (by omega) (by omega) ?_
  first | refine q_neN0 (by omega) (fun hh => absurd hh (by omega)) (fun hh => ?_) | refine q_neI0 (fun hh => absurd hh (by omega)) (fun hh => ?_)
  refine q_5 rfl ?_
  refine q_0 ?_
  refine q_47 (mj_ev_mono _) [_] rfl rfl rfl (by decide) rfl rfl rfl ?_
  first | refine s_178T hX.tm hX.mb (by omega) (by omega) ?_ | refine s_178F hX.tm hX.mb (by omega) (by omega) ?_
  first | refine q_eqN0 (by omega) (fun hh => ?_) (fun hh => absurd hh (by omega)) | refine q_eqI0 (fun hh => ?_) (fun hh => absurd (by omega) hh)
  refine q_5 rfl ?_
  refine q_0 ?_
  refine q_47 (mj_ev_mono _) [_] rfl rfl rfl (by decide) rfl rfl rfl ?_
  first | refine s_178T hX.tm hX.mb (by omega) (by omega) ?_ | refine s_178F hX.tm hX.mb (by omega) (by omega) ?_
  first | refine q_neN0 (by omega) (fun hh => absurd hh (by omega)) (fun hh => ?_) | refine q_neI0 (fun hh => absurd hh (by omega)) (fun hh => ?_)
  refine q_5 rfl ?_
  refine q_0 ?_
  refine q_47 (mj_ev_mono _) [_] rfl rfl rfl (by decide) rfl rfl rfl ?_
  first | refine s_178T hX.tm hX.mb (by omega) (by omega) ?_ | refine s_178F hX.tm hX.mb (by omega) (by omega) ?_
  first | refine q_eqN0 (by omega) (fun hh => absurd hh (by omega)) (fun hh => ?_) | refine q_eqI0 (fun hh => absurd hh (by omega)) (fun hh => ?_)
  refine q_5 rfl ?_
  refine q_0 ?_
  refine q_47 (mj_ev_mono _) [_] rfl rfl rfl (by decide) rfl rfl rfl ?_
  refine s_185 (l := 6) hP (by omega) hX.2.2.2.1.1 hX.2.2.2.1.2.1 hX.2.2.2.1.2.2 hX.2.2.2.2.2.1 hX.2.2.2.2.2.2 (by omega) (by omega) (fun I1 e1 f1 f2 f3 => ?_)
  have hX1 := hX.drop e1 f1 f2 f3
  refine q_5 rfl ?_
  refine q_5 rfl ?_
  refine q_0 ?_
  refine q_47 (mj_ev_mono _) [_] rfl rfl rfl (by decide) rfl rfl rfl ?_
  first | refine s_178T hX1.tm hX1.mb (by omega) (by omega) ?_ | refine s_178F hX1.tm hX1.mb (by omega) (by omega) ?_
  first | refine q_eqN0 (by omega) (fun hh => ?_) (fun hh => absurd hh (by omega)) | refine q_eqI0 (fun hh => ?_) (fun hh => absurd (by omega) hh)
  refine q_0 ?_
  refine q_47 (mj_ev_mono _) [_] rfl rfl rfl (by decide) rfl rfl rfl ?_
  refine s_186 hP hX1.2.2.2.1.1 hX1.2.2.2.1.2.1 (by omega) (fun I2 e2 f4 f5 => ?_)
  have hX2 := hX1.push (v := 11) ⟨by omega, by omega⟩ e2 f4 f5
  refine q_5 rfl ?_
  refine q_47 (mj_ev_mono _) [] rfl rfl rfl (by decide) rfl rfl rfl ?_
  refine s_172 (j := j + 1) hP hX2.mb hX2.tm.1 (fun I4 L4 e4 eL hT => ?_)
  have hX4 := hX2.go e4 hT
  refine q_5 rfl ?_
  refine q_0 ?_
  refine q_47 (mj_ev_mono _) [_] rfl rfl rfl (by decide) rfl rfl rfl ?_
  refine op_call (mn := false) (fun x1 x4 => h (hb.go (by omega) (by rw [List.length_cons, List.length_append]; omega) (by rw [List.length_cons]; omega)) I4 L4 (((E.tr (e1.to rfl rfl)).tr (e2.to rfl rfl)).tr (e4.to rfl rfl)) (EL.tr eL) hX4 x1 x4) (fun σ hh2 => q_23 (q_23 (hh2 _)))
  skip
theorem rl_12 {W' p : List Nat} (hP : PS t P) (hk : tK b n j = 41) (hW : W = p ++ 14 :: W') (hp : ∀ a, a ∈ p → 3 ≤ a ∧ a ≤ 11) (hd : 2 ≤ dp) (h : HDm b n d Q P lo hi I L (j + 1) W' (dp - 1) ts (O ++ p)) : HDm b n d Q P lo hi I L j W dp ts O := by
  intro hb I' L' E EL hX y4
  subst hW
  have tp := hb.top hX.n7
  have ll : (p ++ 14 :: W').length = p.length + W'.length + 1 := by rw [List.length_append, List.length_cons]; omega
  refine q_3 rfl ?_
  first | refine q_eqN0 (by omega) (fun hh => absurd hh (by omega)) (fun hh => ?_) | refine q_eqI0 (fun hh => absurd hh (by omega)) (fun hh => ?_)
  refine q_5 rfl ?_
  refine q_47 (mj_ev_mono _) [] rfl rfl rfl (by decide) rfl rfl rfl ?_
  refine s_177G hX.g ?_
  first | refine q_eqN0 (by omega) (fun hh => absurd hh (by omega)) (fun hh => ?_) | refine q_eqI0 (fun hh => absurd hh (by omega)) (fun hh => ?_)
  refine q_5 rfl ?_
  refine q_47 (mj_ev_mono _) [] rfl rfl rfl (by decide) rfl rfl rfl ?_
  refine s_175 hP hX.tm hX.n7 ?_
  rw [hk, show mI (mk 41) = -(nI 1) from rfl]
  refine q_6 rfl rfl rfl ?_
  refine q_3 rfl ?_
  refine q_0 ?_
  refine q_eqI (fun z => absurd z (by decide)) (fun _ => ?_)
  refine q_3 rfl ?_
  refine q_0 ?_
  refine q_neI (fun _ => ?_) (fun z => absurd (by decide) z)
  refine q_5 rfl ?_
  refine q_0 ?_
  refine q_47 (mj_ev_mono _) [_] rfl rfl rfl (by decide) rfl rfl rfl ?_
  first | refine s_178T hX.tm hX.mb (by omega) (by omega) ?_ | refine s_178F hX.tm hX.mb (by omega) (by omega) ?_
  first | refine q_neN0 (by omega) (fun hh => absurd hh (by omega)) (fun hh => ?_) | refine q_neI0 (fun hh => absurd hh (by omega)) (fun hh => ?_)
  refine q_5 rfl ?_
  refine q_0 ?_
  refine q_47 (mj_ev_mono _) [_] rfl rfl rfl (by decide) rfl rfl rfl ?_
  first | refine s_178T hX.tm hX.mb (by omega) (by omega) ?_ | refine s_178F hX.tm hX.mb (by omega) (by omega) ?_
  first | refine q_eqN0 (by omega) (fun hh => ?_) (fun hh => absurd hh (by omega)) | refine q_eqI0 (fun hh => ?_) (fun hh => absurd (by omega) hh)
  refine q_5 rfl ?_
  refine q_0 ?_
  refine q_47 (mj_ev_mono _) [_] rfl rfl rfl (by decide) rfl rfl rfl ?_
  first | refine s_178T hX.tm hX.mb (by omega) (by omega) ?_ | refine s_178F hX.tm hX.mb (by omega) (by omega) ?_
  first | refine q_neN0 (by omega) (fun hh => absurd hh (by omega)) (fun hh => ?_) | refine q_neI0 (fun hh => absurd hh (by omega)) (fun hh => ?_)
  refine q_5 rfl ?_
  refine q_0 ?_
  refine q_47 (mj_ev_mono _) [_] rfl rfl rfl (by decide) rfl rfl rfl ?_
  first | refine s_178T hX.tm hX.mb (by omega) (by omega) ?_ | refine s_178F hX.tm hX.mb (by omega) (by omega) ?_
  first | refine q_eqN0 (by omega) (fun hh => ?_) (fun hh => absurd hh (by omega)) | refine q_eqI0 (fun hh => ?_) (fun hh => absurd (by omega) hh)
  refine q_5 rfl ?_
  refine q_0 ?_
  refine q_47 (mj_ev_mono _) [_] rfl rfl rfl (by decide) rfl rfl rfl ?_
  first | refine s_178T hX.tm hX.mb (by omega) (by omega) ?_ | refine s_178F hX.tm hX.mb (by omega) (by omega) ?_
  first | refine q_neN0 (by omega) (fun hh => absurd hh (by omega)) (fun hh => ?_) | refine q_neI0 (fun hh => absurd hh (by omega)) (fun hh => ?_)
  refine q_5 rfl ?_
  refine q_0 ?_
  refine q_47 (mj_ev_mono _) [_] rfl rfl rfl (by decide) rfl rfl rfl ?_
  first | refine s_178T hX.tm hX.mb (by omega) (by omega) ?_ | refine s_178F hX.tm hX.mb (by omega) (by omega) ?_
  first | refine q_eqN0 (by omega) (fun hh => ?_) (fun hh => absurd hh (by omega)) | refine q_eqI0 (fun hh => ?_) (fun hh => absurd (by omega) hh)
  refine q_5 rfl ?_
  refine q_0 ?_
  refine q_47 (mj_ev_mono _) [_] rfl rfl rfl (by decide) rfl rfl rfl ?_
  first | refine s_178T hX.tm hX.mb (by omega) (by omega) ?_ | refine s_178F hX.tm hX.mb (by omega) (by omega) ?_
  first | refine q_eqN0 (by omega) (fun hh => absurd hh (by omega)) (fun hh => ?_) | refine q_eqI0 (fun hh => absurd hh (by omega)) (fun hh => ?_)
  refine q_5 rfl ?_
  refine q_47 (mj_ev_mono _) [] rfl rfl rfl (by decide) rfl rfl rfl ?_
  refine s_190 hP hX (by omega) hp ?_
  first | refine q_eqN0 (by omega) (fun hh => absurd hh (by omega)) (fun hh => ?_) | refine q_eqI0 (fun hh => absurd hh (by omega)) (fun hh => ?_)
  refine q_5 rfl ?_
  refine q_47 (mj_ev_mono _) [] rfl rfl rfl (by decide) rfl rfl rfl ?_
  refine s_191 hP hX hb hp hd (fun I2 L2 e2 eL2 hX2 => ?_)
  refine q_23 ?_
  refine q_23 ?_
  exact h (hb.go (by omega) (by rw [List.length_append]; omega) (by omega)) I2 L2 (E.tr e2) (EL.tr eL2) hX2 _
/-- out of the loop -/
theorem hd_exit (hP : PS t P) {I' : mj_I} {L' : mj_L} (hX : XS0 b n j W dp ts O I' L') (hn : ∀ l, l ≠ 2 → jn l (tK b n j) = none) (h6 : tK b n j = 60 ∨ tK b n j = 61 → ts dp = true) (h41 : tK b n j = 41 → (∀ a, a ∈ W → 3 ≤ a ∧ a ≤ 11) ∧ W.length ≤ 900) (h : ∀ x4, mj_run (mj_ev (d + 5)) k192 Q (k192 340) [some (.ref 73), some (.int (nI lo)), some (.int (nI hi)), some (.int (nI 0)), x4] [] (107, I', L', P) 0 0) : HR (d + 5) Q lo hi (107, I', L', P) := by
  intro x4
  obtain ⟨n7, n8, n43, n45, n42, n47⟩ := jn_k hn
  have z29 := hX.2.2.2.2.1.1
  have z6 := hX.2.2.2.2.1.2.2.1
  have out : ∀ y4, mj_run (mj_ev (d + 5)) k192 Q (k192 201) [some (.ref 73), some (.int (nI lo)), some (.int (nI hi)), some (.int (nI 1)), y4] [] (107, I', L', P) 0 0 := by
    intro y4
    by_cases k41 : tK b n j = 41
    · obtain ⟨g1, g2⟩ := h41 k41
      refine q_5 rfl ?_
      refine q_0 ?_
      refine q_47 (mj_ev_mono _) [_] rfl rfl rfl (by decide) rfl rfl rfl ?_
      first | refine s_178T hX.tm hX.mb (by omega) (by omega) ?_ | refine s_178F hX.tm hX.mb (by omega) (by omega) ?_
      first | refine q_neN0 (by omega) (fun hh => absurd hh (by omega)) (fun hh => ?_) | refine q_neI0 (fun hh => absurd hh (by omega)) (fun hh => ?_)
      refine q_5 rfl ?_
      refine q_0 ?_
      refine q_47 (mj_ev_mono _) [_] rfl rfl rfl (by decide) rfl rfl rfl ?_
      first | refine s_178T hX.tm hX.mb (by omega) (by omega) ?_ | refine s_178F hX.tm hX.mb (by omega) (by omega) ?_
      first | refine q_eqN0 (by omega) (fun hh => ?_) (fun hh => absurd hh (by omega)) | refine q_eqI0 (fun hh => ?_) (fun hh => absurd (by omega) hh)
      refine q_5 rfl ?_
      refine q_0 ?_
      refine q_47 (mj_ev_mono _) [_] rfl rfl rfl (by decide) rfl rfl rfl ?_
      first | refine s_178T hX.tm hX.mb (by omega) (by omega) ?_ | refine s_178F hX.tm hX.mb (by omega) (by omega) ?_
      first | refine q_neN0 (by omega) (fun hh => absurd hh (by omega)) (fun hh => ?_) | refine q_neI0 (fun hh => absurd hh (by omega)) (fun hh => ?_)
      refine q_5 rfl ?_
      refine q_0 ?_
      refine q_47 (mj_ev_mono _) [_] rfl rfl rfl (by decide) rfl rfl rfl ?_
      first | refine s_178T hX.tm hX.mb (by omega) (by omega) ?_ | refine s_178F hX.tm hX.mb (by omega) (by omega) ?_
      first | refine q_eqN0 (by omega) (fun hh => ?_) (fun hh => absurd hh (by omega)) | refine q_eqI0 (fun hh => ?_) (fun hh => absurd (by omega) hh)
      refine q_5 rfl ?_
      refine q_0 ?_
      refine q_47 (mj_ev_mono _) [_] rfl rfl rfl (by decide) rfl rfl rfl ?_
      first | refine s_178T hX.tm hX.mb (by omega) (by omega) ?_ | refine s_178F hX.tm hX.mb (by omega) (by omega) ?_
      first | refine q_eqN0 (by omega) (fun hh => absurd hh (by omega)) (fun hh => ?_) | refine q_eqI0 (fun hh => absurd hh (by omega)) (fun hh => ?_)
      refine q_5 rfl ?_
      refine q_47 (mj_ev_mono _) [] rfl rfl rfl (by decide) rfl rfl rfl ?_
      refine s_190N hP hX.2.2.2.1.1 hX.2.2.2.1.2.1 g2 g1 ?_
      first | refine q_eqN0 (by omega) (fun hh => ?_) (fun hh => absurd hh (by omega)) | refine q_eqI0 (fun hh => ?_) (fun hh => absurd (by omega) hh)
      refine q_0 ?_
      refine q_6 rfl rfl rfl ?_
      refine q_23 ?_
      refine q_3 rfl ?_
      first | refine q_eqN0 (by omega) (fun hh => ?_) (fun hh => absurd hh (by omega)) | refine q_eqI0 (fun hh => ?_) (fun hh => absurd (by omega) hh)
      exact h _
    · refine q_5 rfl ?_
      refine q_0 ?_
      refine q_47 (mj_ev_mono _) [_] rfl rfl rfl (by decide) rfl rfl rfl ?_
      first | refine s_178T hX.tm hX.mb (by omega) (by omega) ?_ | refine s_178F hX.tm hX.mb (by omega) (by omega) ?_
      first | refine q_neN0 (by omega) (fun hh => absurd hh (by omega)) (fun hh => ?_) | refine q_neI0 (fun hh => absurd hh (by omega)) (fun hh => ?_)
      refine q_5 rfl ?_
      refine q_0 ?_
      refine q_47 (mj_ev_mono _) [_] rfl rfl rfl (by decide) rfl rfl rfl ?_
      first | refine s_178T hX.tm hX.mb (by omega) (by omega) ?_ | refine s_178F hX.tm hX.mb (by omega) (by omega) ?_
      first | refine q_eqN0 (by omega) (fun hh => ?_) (fun hh => absurd hh (by omega)) | refine q_eqI0 (fun hh => ?_) (fun hh => absurd (by omega) hh)
      refine q_5 rfl ?_
      refine q_0 ?_
      refine q_47 (mj_ev_mono _) [_] rfl rfl rfl (by decide) rfl rfl rfl ?_
      first | refine s_178T hX.tm hX.mb (by omega) (by omega) ?_ | refine s_178F hX.tm hX.mb (by omega) (by omega) ?_
      first | refine q_neN0 (by omega) (fun hh => absurd hh (by omega)) (fun hh => ?_) | refine q_neI0 (fun hh => absurd hh (by omega)) (fun hh => ?_)
      refine q_5 rfl ?_
      refine q_0 ?_
      refine q_47 (mj_ev_mono _) [_] rfl rfl rfl (by decide) rfl rfl rfl ?_
      first | refine s_178T hX.tm hX.mb (by omega) (by omega) ?_ | refine s_178F hX.tm hX.mb (by omega) (by omega) ?_
      first | refine q_eqN0 (by omega) (fun hh => ?_) (fun hh => absurd hh (by omega)) | refine q_eqI0 (fun hh => ?_) (fun hh => absurd (by omega) hh)
      refine q_5 rfl ?_
      refine q_0 ?_
      refine q_47 (mj_ev_mono _) [_] rfl rfl rfl (by decide) rfl rfl rfl ?_
      first | refine s_178T hX.tm hX.mb (by omega) (by omega) ?_ | refine s_178F hX.tm hX.mb (by omega) (by omega) ?_
      first | refine q_eqN0 (by omega) (fun hh => ?_) (fun hh => absurd hh (by omega)) | refine q_eqI0 (fun hh => ?_) (fun hh => absurd (by omega) hh)
      refine q_0 ?_
      refine q_6 rfl rfl rfl ?_
      refine q_23 ?_
      refine q_3 rfl ?_
      first | refine q_eqN0 (by omega) (fun hh => ?_) (fun hh => absurd hh (by omega)) | refine q_eqI0 (fun hh => ?_) (fun hh => absurd (by omega) hh)
      exact h _
  by_cases k60 : tK b n j = 60 ∨ tK b n j = 61
  · have z88 : I' 88 dp = nI 1 := by have := hX.2.2.2.2.1.2.2.2 dp hX.2.2.2.2.1.2.1 (Nat.le_refl _); rw [h6 k60] at this; exact this
    by_cases k60b : tK b n j = 60
    · refine q_3 rfl ?_
      first | refine q_eqN0 (by omega) (fun hh => absurd hh (by omega)) (fun hh => ?_) | refine q_eqI0 (fun hh => absurd hh (by omega)) (fun hh => ?_)
      refine q_5 rfl ?_
      refine q_47 (mj_ev_mono _) [] rfl rfl rfl (by decide) rfl rfl rfl ?_
      refine s_177G hX.g ?_
      first | refine q_eqN0 (by omega) (fun hh => absurd hh (by omega)) (fun hh => ?_) | refine q_eqI0 (fun hh => absurd hh (by omega)) (fun hh => ?_)
      refine q_5 rfl ?_
      refine q_47 (mj_ev_mono _) [] rfl rfl rfl (by decide) rfl rfl rfl ?_
      refine s_175 hP hX.tm hX.n7 ?_
      refine q_6 rfl rfl rfl ?_
      refine q_3 rfl ?_
      refine q_0 ?_
      refine q_eqI (fun z => absurd (mk16.mp z) n8) (fun _ => ?_)
      refine q_3 rfl ?_
      refine q_0 ?_
      refine q_neI (fun _ => ?_) (fun z => absurd (mk17.mp (Classical.not_not.mp z)) n7)
      refine q_5 rfl ?_
      refine q_0 ?_
      refine q_47 (mj_ev_mono _) [_] rfl rfl rfl (by decide) rfl rfl rfl ?_
      first | refine s_178T hX.tm hX.mb (by omega) (by omega) ?_ | refine s_178F hX.tm hX.mb (by omega) (by omega) ?_
      first | refine q_neN0 (by omega) (fun hh => ?_) (fun hh => absurd hh (by omega)) | refine q_neI0 (fun hh => ?_) (fun hh => absurd (by omega) hh)
      refine q_5 rfl ?_
      refine q_33 rfl (by decide) (hP _ _ _ rfl) ?_
      refine q_5 rfl ?_
      first | refine q_31E rfl (by decide) z29 ?_ | refine q_31 rfl (by decide) ?_
      first | refine q_41E _ rfl (by decide) rfl (by show _ < 9; omega) (by decide) (z88) ?_ | refine q_41 _ rfl (by decide) rfl (by show _ < 9; omega) (by decide) ?_
      first | refine q_neN0 (by omega) (fun hh => ?_) (fun hh => absurd hh (by omega)) | refine q_neI0 (fun hh => ?_) (fun hh => absurd (by omega) hh)
      exact out _
    · refine q_3 rfl ?_
      first | refine q_eqN0 (by omega) (fun hh => absurd hh (by omega)) (fun hh => ?_) | refine q_eqI0 (fun hh => absurd hh (by omega)) (fun hh => ?_)
      refine q_5 rfl ?_
      refine q_47 (mj_ev_mono _) [] rfl rfl rfl (by decide) rfl rfl rfl ?_
      refine s_177G hX.g ?_
      first | refine q_eqN0 (by omega) (fun hh => absurd hh (by omega)) (fun hh => ?_) | refine q_eqI0 (fun hh => absurd hh (by omega)) (fun hh => ?_)
      refine q_5 rfl ?_
      refine q_47 (mj_ev_mono _) [] rfl rfl rfl (by decide) rfl rfl rfl ?_
      refine s_175 hP hX.tm hX.n7 ?_
      refine q_6 rfl rfl rfl ?_
      refine q_3 rfl ?_
      refine q_0 ?_
      refine q_eqI (fun z => absurd (mk16.mp z) n8) (fun _ => ?_)
      refine q_3 rfl ?_
      refine q_0 ?_
      refine q_neI (fun _ => ?_) (fun z => absurd (mk17.mp (Classical.not_not.mp z)) n7)
      refine q_5 rfl ?_
      refine q_0 ?_
      refine q_47 (mj_ev_mono _) [_] rfl rfl rfl (by decide) rfl rfl rfl ?_
      first | refine s_178T hX.tm hX.mb (by omega) (by omega) ?_ | refine s_178F hX.tm hX.mb (by omega) (by omega) ?_
      first | refine q_neN0 (by omega) (fun hh => absurd hh (by omega)) (fun hh => ?_) | refine q_neI0 (fun hh => absurd hh (by omega)) (fun hh => ?_)
      refine q_5 rfl ?_
      refine q_0 ?_
      refine q_47 (mj_ev_mono _) [_] rfl rfl rfl (by decide) rfl rfl rfl ?_
      first | refine s_178T hX.tm hX.mb (by omega) (by omega) ?_ | refine s_178F hX.tm hX.mb (by omega) (by omega) ?_
      first | refine q_eqN0 (by omega) (fun hh => absurd hh (by omega)) (fun hh => ?_) | refine q_eqI0 (fun hh => absurd hh (by omega)) (fun hh => ?_)
      refine q_5 rfl ?_
      refine q_33 rfl (by decide) (hP _ _ _ rfl) ?_
      refine q_5 rfl ?_
      first | refine q_31E rfl (by decide) z29 ?_ | refine q_31 rfl (by decide) ?_
      first | refine q_41E _ rfl (by decide) rfl (by show _ < 9; omega) (by decide) (z88) ?_ | refine q_41 _ rfl (by decide) rfl (by show _ < 9; omega) (by decide) ?_
      first | refine q_neN0 (by omega) (fun hh => ?_) (fun hh => absurd hh (by omega)) | refine q_neI0 (fun hh => ?_) (fun hh => absurd (by omega) hh)
      exact out _
  · refine q_3 rfl ?_
    first | refine q_eqN0 (by omega) (fun hh => absurd hh (by omega)) (fun hh => ?_) | refine q_eqI0 (fun hh => absurd hh (by omega)) (fun hh => ?_)
    refine q_5 rfl ?_
    refine q_47 (mj_ev_mono _) [] rfl rfl rfl (by decide) rfl rfl rfl ?_
    refine s_177G hX.g ?_
    first | refine q_eqN0 (by omega) (fun hh => absurd hh (by omega)) (fun hh => ?_) | refine q_eqI0 (fun hh => absurd hh (by omega)) (fun hh => ?_)
    refine q_5 rfl ?_
    refine q_47 (mj_ev_mono _) [] rfl rfl rfl (by decide) rfl rfl rfl ?_
    refine s_175 hP hX.tm hX.n7 ?_
    refine q_6 rfl rfl rfl ?_
    refine q_3 rfl ?_
    refine q_0 ?_
    refine q_eqI (fun z => absurd (mk16.mp z) n8) (fun _ => ?_)
    refine q_3 rfl ?_
    refine q_0 ?_
    refine q_neI (fun _ => ?_) (fun z => absurd (mk17.mp (Classical.not_not.mp z)) n7)
    refine q_5 rfl ?_
    refine q_0 ?_
    refine q_47 (mj_ev_mono _) [_] rfl rfl rfl (by decide) rfl rfl rfl ?_
    first | refine s_178T hX.tm hX.mb (by omega) (by omega) ?_ | refine s_178F hX.tm hX.mb (by omega) (by omega) ?_
    first | refine q_neN0 (by omega) (fun hh => absurd hh (by omega)) (fun hh => ?_) | refine q_neI0 (fun hh => absurd hh (by omega)) (fun hh => ?_)
    refine q_5 rfl ?_
    refine q_0 ?_
    refine q_47 (mj_ev_mono _) [_] rfl rfl rfl (by decide) rfl rfl rfl ?_
    first | refine s_178T hX.tm hX.mb (by omega) (by omega) ?_ | refine s_178F hX.tm hX.mb (by omega) (by omega) ?_
    first | refine q_eqN0 (by omega) (fun hh => ?_) (fun hh => absurd hh (by omega)) | refine q_eqI0 (fun hh => ?_) (fun hh => absurd (by omega) hh)
    exact out _
theorem rl_13 (hP : PS t P) (hn : ∀ l, l ≠ 2 → jn l (tK b n j) = none) (h6 : tK b n j = 60 ∨ tK b n j = 61 → ts dp = true) (h41 : tK b n j ≠ 41) (hd : 2 ≤ dp) (h : FLm b n d Q P lo hi I L 1 j) : HDm b n d Q P lo hi I L j W dp ts O := by
  intro hb I' L' E EL hX
  refine hd_exit hP hX hn h6 (fun q => absurd q h41) (fun x4 => ?_)
  have z29 := hX.2.2.2.2.1.1
  have z6 := hX.2.2.2.2.1.2.2.1
  have E3 : Eqf (frm [] [(73, 11), (73, 12)]) I' (mj_upI (mj_upI I' 73 11 (nI 1)) 73 12 (nI (tB b n j))) := (Eqf.rf.up rfl).up rfl
  refine q_5 rfl ?_
  refine q_47 (mj_ev_mono _) [] rfl rfl rfl (by decide) rfl rfl rfl ?_
  refine s_177G hX.g ?_
  first | refine q_eqN0 (by omega) (fun hh => absurd hh (by omega)) (fun hh => ?_) | refine q_eqI0 (fun hh => absurd hh (by omega)) (fun hh => ?_)
  refine q_5 rfl ?_
  first | refine q_31E rfl (by decide) z29 ?_ | refine q_31 rfl (by decide) ?_
  refine q_0 ?_
  refine q_leN (by omega) (by omega) (fun hh => absurd hh (by omega)) (fun hh => ?_)
  refine q_5 rfl ?_
  refine q_0 ?_
  refine q_47 (mj_ev_mono _) [_] rfl rfl rfl (by decide) rfl rfl rfl ?_
  refine s_176G hX.g hX.tm.2.2.1 ?_
  exact h _ L' (E.tr (E3.to rfl rfl)) EL (hX.flt0 hb (by omega) E3 rfl rfl) _ _
theorem rulM (hP : PS t P) (h26 : I 73 26 = nI lo) (h27 : I 73 27 = nI hi) (lo9 : lo < 100) (hi9 : hi < 100) : RUL (tK b n) (tV b n) (tD b n) lo hi (OPm b n d Q P lo hi I L) (ONm b n d Q P lo hi I L) (HDm b n d Q P lo hi I L) (FLm b n d Q P lo hi I L) := by
  refine ⟨fun j W dp ts O h1 h2 => rl_1 hP h1 h2, fun j W dp ts O h1 h2 => rl_2 hP h1 h2, fun j W dp ts O h1 => rl_3 h1, fun j W dp ts O h1 h2 h3 => rl_4 hP h1 h2 h3, fun j W dp ts O h1 h2 h3 => rl_5 hP h1 h2 h3, fun j W dp ts O v h1 h2 h3 h4 h5 => rl_6 hP h26 h27 hi9 h1 h2 h3 h4 h5, fun j W dp ts O h1 h2 h3 => rl_7 hP h26 h27 lo9 hi9 h1 h2 h3, fun j W dp ts O h1 h2 h3 => rl_8 hP h1 h2 h3, fun j W dp ts O h1 h2 h3 => rl_9 hP h1 h2 h3, fun j W dp ts O h1 h2 h3 => rl_10 hP h1 h2 h3, fun l t j W dp ts O h1 h2 h3 => ?_, fun j W p W' dp ts O h1 h2 h3 h4 h5 => rl_12 hP h1 h2 h3 h4 h5, fun j W dp ts O h1 h2 h3 h4 h5 => rl_13 hP h1 h2 h3 h4 h5⟩
  unfold jn at h1
  split at h1
  · rename_i q; subst q; split at h1
    · cases h1; exact rl_or hP (by assumption) h3
    · cases h1
  · split at h1
    · rename_i q; subst q; split at h1
      · cases h1; exact rl_and hP (by assumption) h3
      · cases h1
    · split at h1
      · rename_i q; subst q; split at h1
        · cases h1; exact rl_lt hP (by assumption) (h2 rfl) h3
        · split at h1
          · cases h1; exact rl_eq hP (by assumption) (h2 rfl) h3
          · cases h1
      · split at h1
        · rename_i q; subst q; split at h1
          · cases h1; exact rl_plus hP (by assumption) h3
          · split at h1
            · cases h1; exact rl_minus hP (by assumption) h3
            · cases h1
        · split at h1
          · rename_i q; subst q; split at h1
            · cases h1; exact rl_times hP (by assumption) h3
            · split at h1
              · cases h1; exact rl_by hP (by assumption) h3
              · cases h1
          · cases h1
end M
