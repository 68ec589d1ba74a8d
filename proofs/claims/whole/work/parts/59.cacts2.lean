/-! the class's acts (2) -/
section C
variable {I : mj_I} {L : mj_L} {P : mj_P} {Q : mj_Q} {d n r t a b : Nat} {A : AS} {w : WT} {c h : Nat → Nat} {m : MM}
theorem CW.cs {x y z v : Nat} {I' : mj_I} (hR : CW n x y z c h m I) (ha : a < n) (hv : v < 10) (e1 : I' x a = nI v) (e1' : ∀ p, p ≠ a → I' x p = I x p) (e2 : I' y = I y) (e3 : I' z = I z) : CW n x y z (fun p => if p = a then v else c p) h m I' := by
  obtain ⟨h1, h2, h3, h4, h5, h6, h7⟩ := hR
  refine ⟨h1, fun p hp => ?_, fun p hp => by rw [e2]; exact h3 p hp, fun p hp => by rw [e3]; exact h4 p hp, fun p hp => ?_, h6, h7⟩
  · by_cases e : p = a
    · subst e
      rw [e1, cx_lt ha, if_pos rfl]
    · rw [e1' p e, h2 p hp]
      show nI (if p < n then c p else 0) = nI (if p < n then (if p = a then v else c p) else 0)
      rw [if_neg e]
  · show (if p = a then v else c p) < 10
    split
    · exact hv
    · exact h5 p hp
theorem CW.hs {x y z v : Nat} {I' : mj_I} (hR : CW n x y z c h m I) (ha : a < n) (hv : v < 10) (e1 : I' y a = nI v) (e1' : ∀ p, p ≠ a → I' y p = I y p) (e2 : I' x = I x) (e3 : I' z = I z) : CW n x y z c (fun p => if p = a then v else h p) m I' := by
  obtain ⟨h1, h2, h3, h4, h5, h6, h7⟩ := hR
  refine ⟨h1, fun p hp => by rw [e2]; exact h2 p hp, fun p hp => ?_, fun p hp => by rw [e3]; exact h4 p hp, h5, fun p hp => ?_, h7⟩
  · by_cases e : p = a
    · subst e
      rw [e1, cx_lt ha, if_pos rfl]
    · rw [e1' p e, h3 p hp]
      show nI (if p < n then h p else 0) = nI (if p < n then (if p = a then v else h p) else 0)
      rw [if_neg e]
  · show (if p = a then v else h p) < 10
    split
    · exact hv
    · exact h6 p hp
theorem CW_ms {x y z : Nat} {I' : mj_I} {m' : MM} (hR : CW n x y z c h m I) (hg : gm n m') (e1 : ∀ p, p < 10 → I' z p = mI (mx n m' p)) (e2 : I' x = I x) (e3 : I' y = I y) : CW n x y z c h m' I' := by
  obtain ⟨h1, h2, h3, h4, h5, h6, h7⟩ := hR
  exact ⟨h1, fun p hp => by rw [e2]; exact h2 p hp, fun p hp => by rw [e3]; exact h3 p hp, e1, h5, h6, hg⟩
theorem uS_f : Eqf (frm [] [(48, 4), (51, 4), (55, 1), (60, 1), (65, 0)]) I (uS I) := (((((Eqf.rf.up rfl).up rfl).up rfl).up rfl).up rfl)
theorem uB_f : Eqf (frm [] [(51, 4), (60, 1), (65, 0)]) I (uB I) := ((Eqf.rf.up rfl).up rfl).up rfl
/-- other socks, all reckoned anew -/
theorem CS.rowS {ro : RO} {I1 : mj_I} (hS : CS A I) (e : Eqf (frm [32, 33, 34] [(31, 0)]) I I1) (hy : I1 31 0 = ro.1) (hw : CW A.w.n 32 33 34 ro.2.1 ro.2.2.1 ro.2.2.2 I1) : CS (A.si (ro, A.im.2)) (uS I1) := by
  have E : Eqf (frm [32, 33, 34] [(31, 0), (48, 4), (51, 4), (55, 1), (60, 1), (65, 0)]) I (uS I1) := (e.to rfl rfl).tr (uS_f.to rfl rfl)
  refine CS.clr (hS.cb.si (E.to rfl rfl) (hS.cb.2.1.row E ((uS_f 31 0 rfl).trans hy) (hw.fr (funext fun j => uS_f 32 j rfl) (funext fun j => uS_f 33 j rfl) (funext fun j => uS_f 34 j rfl)))) rfl rfl rfl rfl rfl
/-- other bindings -/
theorem CS.rowB {m' : MM} {I1 : mj_I} (hS : CS A I) (e : Eqf (frm [34] []) I I1) (hw : CW A.w.n 32 33 34 A.c A.h m' I1) : CS (A.si ((A.y, A.c, A.h, m'), A.im.2)) (uB I1) := by
  have E : Eqf (frm [34] [(51, 4), (60, 1), (65, 0)]) I (uB I1) := (e.to rfl rfl).tr (uB_f.to rfl rfl)
  obtain ⟨hB, hO, hK, hU, hZ, hD⟩ := hS
  exact ⟨hB.si (E.to rfl rfl) (hB.2.1.row (ro := (A.y, A.c, A.h, m')) (E.to rfl rfl) ((E 31 0 rfl).trans hB.hy) (hw.fr (funext fun j => uB_f 32 j rfl) (funext fun j => uB_f 33 j rfl) (funext fun j => uB_f 34 j rfl))), hO.fr (E 48 4 rfl) (funext fun j => E 49 j rfl), Or.inl rfl, hU.fr (E 55 1 rfl) (funext fun j => E 56 j rfl) (funext fun j => E 57 j rfl) (fun k h1 h8 hk => ⟨k, h1, h8, (E 48 4 rfl).trans hk⟩), Or.inl rfl, Or.inl rfl⟩
theorem CS.rfs {k : Nat} (hS : CS A I) (hk : k < 3) : CS (A.rfs k) (mj_upI I 2 k (A.rf k + nI 1)) := by
  have E : Eqf (frm [2] []) I (mj_upI I 2 k (A.rf k + nI 1)) := Eqf.rf.up rfl
  obtain ⟨hB, hO, hK, hU, hZ, hD⟩ := hS
  refine ⟨?_, hO.fr (E 48 4 rfl) (funext fun j => E 49 j rfl), hK.fr (E 51 4 rfl) (funext fun j => E 52 j rfl), hU.fr (E 55 1 rfl) (funext fun j => E 56 j rfl) (funext fun j => E 57 j rfl) (fun k h1 h8 hk => ⟨k, h1, h8, (E 48 4 rfl).trans hk⟩), hZ.fr (E 60 1 rfl) (E 60 2 rfl) (funext fun j => E 62 j rfl) (funext fun j => E 63 j rfl), hD.fr (fun j => E 65 j rfl) (funext fun j => E 66 j rfl)⟩
  obtain ⟨h1, h2, h3, h4, h5, h6, h7, h8, h9⟩ := hB
  refine ⟨h1.fr E ⟨rfl, rfl, rfl, rfl, rfl, rfl⟩ (fun _ => rfl) (fun _ _ => ⟨rfl, rfl, rfl, rfl⟩), h2.fr (fun j _ => E 30 j rfl) (E 31 0 rfl) (funext fun j => E 32 j rfl) (funext fun j => E 33 j rfl) (funext fun j => E 34 j rfl) (funext fun j => E 35 j rfl) (funext fun j => E 36 j rfl) (funext fun j => E 37 j rfl) (funext fun j => E 38 j rfl), ?_, (E 0 1 rfl).trans h4, h5, fun j hj => ⟨(E 1 j rfl).trans (h6 j hj).1, (h6 j hj).2⟩, (E 0 2 rfl).trans h7, h8, fun j hj => ?_⟩
  · show (match A.kp with
      | none => I 0 9 = nI 0
      | some i => I 0 9 = nI 1 ∧ CI A.w.n 39 40 41 42 43 44 45 46 47 i (mj_upI I 2 k (A.rf k + nI 1)))
    cases hk : A.kp with
    | none =>
      rw [hk] at h3
      exact h3
    | some i =>
      rw [hk] at h3
      exact ⟨h3.1, h3.2.fr (fun j _ => E 39 j rfl) (E 40 0 rfl) (funext fun j => E 41 j rfl) (funext fun j => E 42 j rfl) (funext fun j => E 43 j rfl) (funext fun j => E 44 j rfl) (funext fun j => E 45 j rfl) (funext fun j => E 46 j rfl) (funext fun j => E 47 j rfl)⟩
  · show _ = (if j = k then A.rf j + nI 1 else A.rf j)
    by_cases e : j = k
    · subst e
      rw [if_pos rfl]
      exact upI_s
    · rw [if_neg e, upI_j e]
      exact h9 j hj
theorem kC.ref {k0 : Nat} {v : mj_R} (k : kC Q I L P (A.rfs k0) v) (hk : k0 < 3) (hS : CS A I) : Q v (107, mj_upI I 2 k0 (A.rf k0 + nI 1), L, P) := k _ L (hS.rfs hk) (fun c j h73 => congrFun (upI_c (by omega)) j) (fun _ _ _ => rfl)
theorem CB.rf {k : Nat} (hB : CB A I) (hk : k < 3) : I 2 k = A.rf k := hB.2.2.2.2.2.2.2.2 k hk
theorem frm_hi {cs : List Nat} {fs : List (Nat × Nat)} {c j : Nat} (h : 73 ≤ c) (hc : cs.all (fun c => Nat.blt c 73) = true) (hf : fs.all (fun q => Nat.blt q.1 73) = true) : frm cs fs c j = false := by
  cases hq : frm cs fs c j with
  | false => rfl
  | true =>
    unfold frm at hq
    rw [Bool.or_eq_true] at hq
    rcases hq with h3 | h3
    · obtain ⟨q, h4, h5⟩ := List.any_eq_true.mp h3
      obtain rfl := eq_of_beq h5
      have := Nat.le_of_ble_eq_true (n := c + 1) (List.all_eq_true.mp hc c h4)
      omega
    · obtain ⟨q, h4, h5⟩ := List.any_eq_true.mp h3
      rw [Bool.and_eq_true] at h5
      obtain rfl := eq_of_beq h5.1
      have := Nat.le_of_ble_eq_true (n := q.1 + 1) (List.all_eq_true.mp hf q h4)
      omega
theorem c_110 {v : Nat} (hP : PS t P) (hS : CS A I) (ha : a < A.w.n) (hv : v ≤ 9) (k : kC Q I L P (A.dye a v) (.inl (some (.int (nI (A.c a)))))) : mj_ev (d + 12) 110 [.ref 0, .int (nI a), .int (nI v)] (107, I, L, P) Q := by
  refine ⟨rfl, ?_⟩
  have hn10 := hS.cb.n10
  show mj_run (mj_ev (d + 11)) k110 Q (k110 0) [some (.ref 0), some (.int (nI a)), some (.int (nI v)), none] [] (107, I, L, P) 1 6
  refine q_5 rfl ?_
  refine q_3 rfl ?_
  refine q_47 (mj_ev_mono _) [_] rfl rfl rfl (by decide) rfl rfl rfl ?_
  refine c_149T hP hS.cb.hn hn10 ha ?_
  refine q_3 rfl ?_
  first | refine q_ltN0 (by omega) ?_ | refine q_ltI0 (fun hh => absurd hh (by omega)) (fun hh => ?_)
  refine q_3 rfl ?_
  refine q_0 ?_
  refine q_ltN (by omega) (by omega) (fun hh => ?_) (fun hh => absurd hh (by omega))
  refine q_5 rfl ?_
  refine q_33 rfl (by decide) (hP _ _ _ rfl) ?_
  refine q_47 (mj_ev_mono _) [] rfl rfl rfl (by decide) rfl rfl rfl ?_
  refine c_10 hP hS (fun I1 e1 hS1 => ?_)
  have r1 : I1 32 a = nI (A.c a) := hS1.cb.cw.col ha
  refine q_5 rfl ?_
  refine q_33 rfl (by decide) (hP _ _ _ rfl) ?_
  refine q_33 rfl (by decide) (hP _ _ _ rfl) ?_
  refine q_3 rfl ?_
  first | refine q_38E _ rfl (by decide) rfl (by show _ < 10; omega) (by decide) (r1) ?_ | refine q_38 _ rfl (by decide) rfl (by show _ < 10; omega) (by decide) ?_
  refine q_6 rfl rfl rfl ?_
  refine q_5 rfl ?_
  refine q_33 rfl (by decide) (hP _ _ _ rfl) ?_
  refine q_33 rfl (by decide) (hP _ _ _ rfl) ?_
  refine q_3 rfl ?_
  refine q_3 rfl ?_
  refine q_42 _ rfl (by decide) rfl (by show _ < 10; omega) (by decide) ?_
  refine q_5 rfl ?_
  refine q_47 (mj_ev_mono _) [] rfl rfl rfl (by decide) rfl rfl rfl ?_
  refine c_157 hP ?_
  refine q_3 rfl ?_
  refine q_26 ?_
  refine k _ L (hS1.rowS (ro := (A.y, fun x => if x = a then v else A.c x, A.h, A.m)) (Eqf.rf.up rfl) hS1.cb.hy (hS1.cb.cw.cs ha (by omega) upI_s (fun p hp => upI_j hp) rfl rfl)) (fun c j h73 => ?_) (fun _ _ _ => rfl)
  exact (uS_f c j (frm_hi h73 rfl rfl)).trans ((congrFun (upI_c (by omega)) j).trans (e1 c j (frm_hi h73 rfl rfl)))
theorem i32_9 {y : Int32} (h1 : nI 9 < y) (h2 : y < nI 10) : False := by
  have e1 : (nI 9).toInt = 9 := by decide
  have e2 : (nI 10).toInt = 10 := by decide
  have g1 := Int32.lt_iff_toInt_lt.mp h1
  have g2 := Int32.lt_iff_toInt_lt.mp h2
  omega
theorem c_110R {y : Int32} (hP : PS t P) (hS : CS A I) (ha : a < A.w.n) (hy : y < nI 0 ∨ nI 9 < y) (k : kC Q I L P (A.rfs 1) (.inl (some (.int (-(nI 1)))))) : mj_ev (d + 12) 110 [.ref 0, .int (nI a), .int y] (107, I, L, P) Q := by
  refine ⟨rfl, ?_⟩
  have hn10 := hS.cb.n10
  have r1 := hS.cb.rf (k := 1) (by omega)
  show mj_run (mj_ev (d + 11)) k110 Q (k110 0) [some (.ref 0), some (.int (nI a)), some (.int y), none] [] (107, I, L, P) 1 6
  have L15 : mj_run (mj_ev (d + 11)) k110 Q (k110 15) [some (.ref 0), some (.int (nI a)), some (.int y), none] [] (107, I, L, P) 0 0 := by
    refine q_5 rfl ?_
    refine q_33 rfl (by decide) (hP _ _ _ rfl) ?_
    refine q_0 ?_
    refine q_20 rfl rfl ?_
    first | refine q_38E _ rfl (by decide) rfl (by show _ < 3; omega) (by decide) (r1) ?_ | refine q_38 _ rfl (by decide) rfl (by show _ < 3; omega) (by decide) ?_
    refine q_0 ?_
    first | refine q_add ?_ | refine q_11 rfl ?_
    refine q_42 _ rfl (by decide) rfl (by show _ < 3; omega) (by decide) ?_
    refine q_1 ?_
    refine q_26 ?_
    exact k.ref (by omega) hS
  by_cases h0 : y < nI 0
  · refine q_5 rfl ?_
    refine q_3 rfl ?_
    refine q_47 (mj_ev_mono _) [_] rfl rfl rfl (by decide) rfl rfl rfl ?_
    refine c_149T hP hS.cb.hn hn10 ha ?_
    refine q_3 rfl ?_
    refine q_ltI0 (fun _ => ?_) (fun z => absurd h0 z)
    exact L15
  · refine q_5 rfl ?_
    refine q_3 rfl ?_
    refine q_47 (mj_ev_mono _) [_] rfl rfl rfl (by decide) rfl rfl rfl ?_
    refine c_149T hP hS.cb.hn hn10 ha ?_
    refine q_3 rfl ?_
    refine q_ltI0 (fun z => absurd z h0) (fun _ => ?_)
    refine q_3 rfl ?_
    refine q_0 ?_
    refine q_ltI (fun z => (by rcases hy with h | h; exact absurd h h0; exact (i32_9 h z).elim)) (fun _ => ?_)
    exact L15
theorem c_111 {v : Nat} (hP : PS t P) (hS : CS A I) (ha : a < A.w.n) (hv1 : 1 ≤ v) (hv : v ≤ 9) (k : kC Q I L P (A.darn a v) (.inl (some (.int (nI (A.h a - v)))))) : mj_ev (d + 12) 111 [.ref 0, .int (nI a), .int (nI v)] (107, I, L, P) Q := by
  refine ⟨rfl, ?_⟩
  have hn10 := hS.cb.n10
  have hh10 := hS.cb.cw.h10 ha
  have mx0 : (if nI 0 < nI (A.h a) - nI v then nI (A.h a) - nI v else nI 0) = nI (A.h a - v) := by
    rcases Nat.lt_or_ge (A.h a) v with hlt | hge
    · rw [if_neg (c := nI 0 < nI (A.h a) - nI v) (Int32.not_lt.mpr (Int32.le_of_lt (pk_sneg (by omega) hlt))), show A.h a - v = 0 from by omega]
    · rw [pk_sub hge]
      split
      · rfl
      · rename_i h0
        rcases Nat.eq_zero_or_pos (A.h a - v) with h1 | h1
        · rw [h1]
        · exact absurd (nI_lt h1 (by omega)) h0
  show mj_run (mj_ev (d + 11)) k111 Q (k111 0) [some (.ref 0), some (.int (nI a)), some (.int (nI v))] [] (107, I, L, P) 1 6
  refine q_5 rfl ?_
  refine q_3 rfl ?_
  refine q_47 (mj_ev_mono _) [_] rfl rfl rfl (by decide) rfl rfl rfl ?_
  refine c_149T hP hS.cb.hn hn10 ha ?_
  refine q_3 rfl ?_
  refine q_0 ?_
  refine q_ltN (by omega) (by omega) (fun hh => absurd hh (by omega)) (fun hh => ?_)
  refine q_3 rfl ?_
  refine q_0 ?_
  refine q_leN (by omega) (by omega) (fun hh => ?_) (fun hh => absurd hh (by omega))
  refine q_5 rfl ?_
  refine q_33 rfl (by decide) (hP _ _ _ rfl) ?_
  refine q_47 (mj_ev_mono _) [] rfl rfl rfl (by decide) rfl rfl rfl ?_
  refine c_10 hP hS (fun I1 e1 hS1 => ?_)
  have r1 : I1 33 a = nI (A.h a) := hS1.cb.cw.hol ha
  have r2 : uS (mj_upI I1 33 a (nI (A.h a - v))) 33 a = nI (A.h a - v) := (uS_f 33 a rfl).trans upI_s
  refine q_5 rfl ?_
  refine q_33 rfl (by decide) (hP _ _ _ rfl) ?_
  refine q_33 rfl (by decide) (hP _ _ _ rfl) ?_
  refine q_3 rfl ?_
  refine q_0 ?_
  refine q_5 rfl ?_
  refine q_33 rfl (by decide) (hP _ _ _ rfl) ?_
  refine q_33 rfl (by decide) (hP _ _ _ rfl) ?_
  refine q_3 rfl ?_
  first | refine q_38E _ rfl (by decide) rfl (by show _ < 10; omega) (by decide) (r1) ?_ | refine q_38E _ rfl (by decide) rfl (by show _ < 10; omega) (by decide) (r2) ?_ | refine q_38 _ rfl (by decide) rfl (by show _ < 10; omega) (by decide) ?_
  refine q_3 rfl ?_
  refine q_11 rfl ?_
  refine q_70 rfl ?_
  rw [mx0]
  refine q_42 _ rfl (by decide) rfl (by show _ < 10; omega) (by decide) ?_
  refine q_5 rfl ?_
  refine q_47 (mj_ev_mono _) [] rfl rfl rfl (by decide) rfl rfl rfl ?_
  refine c_157 hP ?_
  refine q_5 rfl ?_
  refine q_33 rfl (by decide) (hP _ _ _ rfl) ?_
  refine q_33 rfl (by decide) (hP _ _ _ rfl) ?_
  refine q_3 rfl ?_
  first | refine q_38E _ rfl (by decide) rfl (by show _ < 10; omega) (by decide) (r1) ?_ | refine q_38E _ rfl (by decide) rfl (by show _ < 10; omega) (by decide) (r2) ?_ | refine q_38 _ rfl (by decide) rfl (by show _ < 10; omega) (by decide) ?_
  refine q_26 ?_
  refine k _ L (hS1.rowS (ro := (A.y, A.c, fun x => if x = a then A.h a - v else A.h x, A.m)) (Eqf.rf.up rfl) hS1.cb.hy (hS1.cb.cw.hs ha (by omega) upI_s (fun p hp => upI_j hp) rfl rfl)) (fun c j h73 => ?_) (fun _ _ _ => rfl)
  exact (uS_f c j (frm_hi h73 rfl rfl)).trans ((congrFun (upI_c (by omega)) j).trans (e1 c j (frm_hi h73 rfl rfl)))
theorem c_111R {y : Int32} (hP : PS t P) (hS : CS A I) (ha : a < A.w.n) (hy : y < nI 1 ∨ nI 9 < y) (k : kC Q I L P (A.rfs 1) (.inl (some (.int (-(nI 1)))))) : mj_ev (d + 12) 111 [.ref 0, .int (nI a), .int y] (107, I, L, P) Q := by
  refine ⟨rfl, ?_⟩
  have hn10 := hS.cb.n10
  have r1 := hS.cb.rf (k := 1) (by omega)
  show mj_run (mj_ev (d + 11)) k111 Q (k111 0) [some (.ref 0), some (.int (nI a)), some (.int y)] [] (107, I, L, P) 1 6
  have L16 : mj_run (mj_ev (d + 11)) k111 Q (k111 16) [some (.ref 0), some (.int (nI a)), some (.int y)] [] (107, I, L, P) 0 0 := by
    refine q_5 rfl ?_
    refine q_33 rfl (by decide) (hP _ _ _ rfl) ?_
    refine q_0 ?_
    refine q_20 rfl rfl ?_
    first | refine q_38E _ rfl (by decide) rfl (by show _ < 3; omega) (by decide) (r1) ?_ | refine q_38 _ rfl (by decide) rfl (by show _ < 3; omega) (by decide) ?_
    refine q_0 ?_
    first | refine q_add ?_ | refine q_11 rfl ?_
    refine q_42 _ rfl (by decide) rfl (by show _ < 3; omega) (by decide) ?_
    refine q_1 ?_
    refine q_26 ?_
    exact k.ref (by omega) hS
  by_cases h0 : y < nI 1
  · refine q_5 rfl ?_
    refine q_3 rfl ?_
    refine q_47 (mj_ev_mono _) [_] rfl rfl rfl (by decide) rfl rfl rfl ?_
    refine c_149T hP hS.cb.hn hn10 ha ?_
    refine q_3 rfl ?_
    refine q_0 ?_
    refine q_ltI (fun _ => ?_) (fun z => absurd h0 z)
    exact L16
  · refine q_5 rfl ?_
    refine q_3 rfl ?_
    refine q_47 (mj_ev_mono _) [_] rfl rfl rfl (by decide) rfl rfl rfl ?_
    refine c_149T hP hS.cb.hn hn10 ha ?_
    refine q_3 rfl ?_
    refine q_0 ?_
    refine q_ltI (fun z => absurd z h0) (fun _ => ?_)
    refine q_3 rfl ?_
    refine q_0 ?_
    refine q_leI (fun z => (by rcases hy with h | h; exact absurd h h0; exact absurd h (Int32.not_lt.mpr z))) (fun _ => ?_)
    exact L16
theorem c_112 {q : Nat} (hP : PS t P) (hS : CS A I) (ha : a < A.w.n) (hm : A.m a = some q) (k : kC Q I L P (A.mat (unb A.m a q)) (.inl (some (.int (nI q))))) : mj_ev (d + 12) 112 [.ref 0, .int (nI a)] (107, I, L, P) Q := by
  refine ⟨rfl, ?_⟩
  have hn10 := hS.cb.n10
  have r1 : I 34 a = nI q := by
    rw [hS.cb.cw.mat ha, hm]
    rfl
  obtain ⟨hq, hqa, hm2⟩ := hS.cb.cw.gm a ha q hm
  show mj_run (mj_ev (d + 11)) k112 Q (k112 0) [some (.ref 0), some (.int (nI a)), none] [] (107, I, L, P) 1 6
  refine q_5 rfl ?_
  refine q_3 rfl ?_
  refine q_47 (mj_ev_mono _) [_] rfl rfl rfl (by decide) rfl rfl rfl ?_
  refine c_149T hP hS.cb.hn hn10 ha ?_
  refine q_5 rfl ?_
  refine q_33 rfl (by decide) (hP _ _ _ rfl) ?_
  refine q_33 rfl (by decide) (hP _ _ _ rfl) ?_
  refine q_3 rfl ?_
  first | refine q_38E _ rfl (by decide) rfl (by show _ < 10; omega) (by decide) (r1) ?_ | refine q_38 _ rfl (by decide) rfl (by show _ < 10; omega) (by decide) ?_
  refine q_6 rfl rfl rfl ?_
  refine q_3 rfl ?_
  refine q_1 ?_
  refine q_neI (fun _ => ?_) (fun h => absurd (mI_ne (by omega)) h)
  refine q_5 rfl ?_
  refine q_33 rfl (by decide) (hP _ _ _ rfl) ?_
  refine q_47 (mj_ev_mono _) [] rfl rfl rfl (by decide) rfl rfl rfl ?_
  refine c_10 hP hS (fun I1 e1 hS1 => ?_)
  refine q_5 rfl ?_
  refine q_33 rfl (by decide) (hP _ _ _ rfl) ?_
  refine q_33 rfl (by decide) (hP _ _ _ rfl) ?_
  refine q_3 rfl ?_
  refine q_1 ?_
  refine q_42 _ rfl (by decide) rfl (by show _ < 10; omega) (by decide) ?_
  refine q_5 rfl ?_
  refine q_33 rfl (by decide) (hP _ _ _ rfl) ?_
  refine q_33 rfl (by decide) (hP _ _ _ rfl) ?_
  refine q_3 rfl ?_
  refine q_1 ?_
  refine q_42 _ rfl (by decide) rfl (by show _ < 10; omega) (by decide) ?_
  refine q_5 rfl ?_
  refine q_47 (mj_ev_mono _) [] rfl rfl rfl (by decide) rfl rfl rfl ?_
  refine c_158 hP ?_
  refine q_3 rfl ?_
  refine q_26 ?_
  refine k _ L (hS1.rowB ((Eqf.rf.up rfl).up rfl) (CW_ms hS1.cb.cw (gm_unb hS.cb.cw.gm ha hm) (fun p hp => ?_) rfl rfl)) (fun c j h73 => ?_) (fun _ _ _ => rfl)
  · show _ = mI (if p < A.w.n then (if p = q then none else if p = a then none else A.m p) else none)
    by_cases e1 : p = q
    · subst e1
      rw [upI_s, if_pos hq, if_pos rfl]
      rfl
    · rw [upI_j e1, if_neg e1]
      by_cases e2 : p = a
      · subst e2
        rw [upI_s, if_pos ha, if_pos rfl]
        rfl
      · rw [upI_j e2, if_neg e2]
        exact hS1.cb.cw.2.2.2.1 p hp
  · exact (uB_f c j (frm_hi h73 rfl rfl)).trans ((congrFun (upI_c (by omega)) j).trans ((congrFun (upI_c (by omega)) j).trans (e1 c j (frm_hi h73 rfl rfl))))
theorem c_112R (hP : PS t P) (hS : CS A I) (ha : a < A.w.n) (hm : A.m a = none) (k : kC Q I L P (A.rfs 1) (.inl (some (.int (-(nI 1)))))) : mj_ev (d + 12) 112 [.ref 0, .int (nI a)] (107, I, L, P) Q := by
  refine ⟨rfl, ?_⟩
  have hn10 := hS.cb.n10
  have r2 := hS.cb.rf (k := 1) (by omega)
  have r1 : I 34 a = -(nI 1) := by
    rw [hS.cb.cw.mat ha, hm]
    rfl
  show mj_run (mj_ev (d + 11)) k112 Q (k112 0) [some (.ref 0), some (.int (nI a)), none] [] (107, I, L, P) 1 6
  refine q_5 rfl ?_
  refine q_3 rfl ?_
  refine q_47 (mj_ev_mono _) [_] rfl rfl rfl (by decide) rfl rfl rfl ?_
  refine c_149T hP hS.cb.hn hn10 ha ?_
  refine q_5 rfl ?_
  refine q_33 rfl (by decide) (hP _ _ _ rfl) ?_
  refine q_33 rfl (by decide) (hP _ _ _ rfl) ?_
  refine q_3 rfl ?_
  first | refine q_38E _ rfl (by decide) rfl (by show _ < 10; omega) (by decide) (r1) ?_ | refine q_38 _ rfl (by decide) rfl (by show _ < 10; omega) (by decide) ?_
  refine q_6 rfl rfl rfl ?_
  refine q_3 rfl ?_
  refine q_1 ?_
  refine q_neI (fun h => absurd rfl h) (fun _ => ?_)
  refine q_5 rfl ?_
  refine q_33 rfl (by decide) (hP _ _ _ rfl) ?_
  refine q_0 ?_
  refine q_20 rfl rfl ?_
  first | refine q_38E _ rfl (by decide) rfl (by show _ < 3; omega) (by decide) (r2) ?_ | refine q_38 _ rfl (by decide) rfl (by show _ < 3; omega) (by decide) ?_
  refine q_0 ?_
  first | refine q_add ?_ | refine q_11 rfl ?_
  refine q_42 _ rfl (by decide) rfl (by show _ < 3; omega) (by decide) ?_
  refine q_1 ?_
  refine q_26 ?_
  exact k.ref (by omega) hS
theorem c_155T (hP : PS t P) (hS : CS A I) (ha : a < A.w.n) (hb : b < A.w.n) (hab : a ≠ b) (hma : A.m a = none) (hmb : A.m b = none) (k : Q (.inl (some (.int (nI 1)))) (107, I, L, P)) : mj_ev (d + 1) 155 [.ref 0, .int (nI a), .int (nI b)] (107, I, L, P) Q := by
  refine ⟨rfl, ?_⟩
  have hn10 := hS.cb.n10
  have r1 : I 34 a = -(nI 1) := by
    rw [hS.cb.cw.mat ha, hma]
    rfl
  have r2 : I 34 b = -(nI 1) := by
    rw [hS.cb.cw.mat hb, hmb]
    rfl
  show mj_run (mj_ev d) k155 Q (k155 0) [some (.ref 0), some (.int (nI a)), some (.int (nI b))] [] (107, I, L, P) 0 0
  refine q_3 rfl ?_
  refine q_3 rfl ?_
  refine q_eqN (by omega) (by omega) (fun hh => absurd hh (by omega)) (fun hh => ?_)
  refine q_5 rfl ?_
  refine q_33 rfl (by decide) (hP _ _ _ rfl) ?_
  refine q_33 rfl (by decide) (hP _ _ _ rfl) ?_
  refine q_3 rfl ?_
  first | refine q_38E _ rfl (by decide) rfl (by show _ < 10; omega) (by decide) (r1) ?_ | refine q_38E _ rfl (by decide) rfl (by show _ < 10; omega) (by decide) (r2) ?_ | refine q_38 _ rfl (by decide) rfl (by show _ < 10; omega) (by decide) ?_
  refine q_1 ?_
  refine q_neI (fun h => absurd rfl h) (fun _ => ?_)
  refine q_5 rfl ?_
  refine q_33 rfl (by decide) (hP _ _ _ rfl) ?_
  refine q_33 rfl (by decide) (hP _ _ _ rfl) ?_
  refine q_3 rfl ?_
  first | refine q_38E _ rfl (by decide) rfl (by show _ < 10; omega) (by decide) (r1) ?_ | refine q_38E _ rfl (by decide) rfl (by show _ < 10; omega) (by decide) (r2) ?_ | refine q_38 _ rfl (by decide) rfl (by show _ < 10; omega) (by decide) ?_
  refine q_1 ?_
  refine q_neI (fun h => absurd rfl h) (fun _ => ?_)
  refine q_0 ?_
  refine q_23 ?_
  refine q_27 (by first | exact Or.inl rfl | exact Or.inr rfl | assumption | (split <;> first | exact Or.inl rfl | exact Or.inr rfl)) ?_
  exact k
theorem c_155F (hP : PS t P) (hS : CS A I) (ha : a < A.w.n) (hb : b < A.w.n) (hr : a = b ∨ A.m a ≠ none ∨ A.m b ≠ none) (k : Q (.inl (some (.int (nI 0)))) (107, I, L, P)) : mj_ev (d + 1) 155 [.ref 0, .int (nI a), .int (nI b)] (107, I, L, P) Q := by
  refine ⟨rfl, ?_⟩
  have hn10 := hS.cb.n10
  have r1 := hS.cb.cw.mat ha
  have r2 := hS.cb.cw.mat hb
  have n1 := hS.cb.cw.m31 ha
  have n2 := hS.cb.cw.m31 hb
  show mj_run (mj_ev d) k155 Q (k155 0) [some (.ref 0), some (.int (nI a)), some (.int (nI b))] [] (107, I, L, P) 0 0
  by_cases hab : a = b
  · refine q_3 rfl ?_
    refine q_3 rfl ?_
    refine q_eqN (by omega) (by omega) (fun hh => ?_) (fun hh => absurd hh (by omega))
    refine q_0 ?_
    refine q_27 (by first | exact Or.inl rfl | exact Or.inr rfl | assumption | (split <;> first | exact Or.inl rfl | exact Or.inr rfl)) ?_
    exact k
  · by_cases hma : A.m a = none
    · have hmb : A.m b ≠ none := (hr.resolve_left hab).resolve_left (fun z => z hma)
      refine q_3 rfl ?_
      refine q_3 rfl ?_
      refine q_eqN (by omega) (by omega) (fun hh => absurd hh (by omega)) (fun hh => ?_)
      refine q_5 rfl ?_
      refine q_33 rfl (by decide) (hP _ _ _ rfl) ?_
      refine q_33 rfl (by decide) (hP _ _ _ rfl) ?_
      refine q_3 rfl ?_
      first | refine q_38E _ rfl (by decide) rfl (by show _ < 10; omega) (by decide) (r1) ?_ | refine q_38E _ rfl (by decide) rfl (by show _ < 10; omega) (by decide) (r2) ?_ | refine q_38 _ rfl (by decide) rfl (by show _ < 10; omega) (by decide) ?_
      refine q_1 ?_
      refine q_neI (fun h => absurd ((mI_eq n1).mpr hma) h) (fun _ => ?_)
      refine q_5 rfl ?_
      refine q_33 rfl (by decide) (hP _ _ _ rfl) ?_
      refine q_33 rfl (by decide) (hP _ _ _ rfl) ?_
      refine q_3 rfl ?_
      first | refine q_38E _ rfl (by decide) rfl (by show _ < 10; omega) (by decide) (r1) ?_ | refine q_38E _ rfl (by decide) rfl (by show _ < 10; omega) (by decide) (r2) ?_ | refine q_38 _ rfl (by decide) rfl (by show _ < 10; omega) (by decide) ?_
      refine q_1 ?_
      refine q_neI (fun _ => ?_) (fun h => absurd (fun z => hmb ((mI_eq n2).mp z)) h)
      refine q_0 ?_
      refine q_27 (by first | exact Or.inl rfl | exact Or.inr rfl | assumption | (split <;> first | exact Or.inl rfl | exact Or.inr rfl)) ?_
      exact k
    · refine q_3 rfl ?_
      refine q_3 rfl ?_
      refine q_eqN (by omega) (by omega) (fun hh => absurd hh (by omega)) (fun hh => ?_)
      refine q_5 rfl ?_
      refine q_33 rfl (by decide) (hP _ _ _ rfl) ?_
      refine q_33 rfl (by decide) (hP _ _ _ rfl) ?_
      refine q_3 rfl ?_
      first | refine q_38E _ rfl (by decide) rfl (by show _ < 10; omega) (by decide) (r1) ?_ | refine q_38 _ rfl (by decide) rfl (by show _ < 10; omega) (by decide) ?_
      refine q_1 ?_
      refine q_neI (fun _ => ?_) (fun h => absurd (fun z => hma ((mI_eq n1).mp z)) h)
      refine q_0 ?_
      refine q_27 (by first | exact Or.inl rfl | exact Or.inr rfl | assumption | (split <;> first | exact Or.inl rfl | exact Or.inr rfl)) ?_
      exact k
theorem c_113 (hP : PS t P) (hS : CS A I) (ha : a < A.w.n) (hb : b < A.w.n) (hab : a ≠ b) (hma : A.m a = none) (hmb : A.m b = none) (k : kC Q I L P (A.mat (bnd A.m a b)) (.inl (some (.int (nI 1))))) : mj_ev (d + 12) 113 [.ref 0, .int (nI a), .int (nI b)] (107, I, L, P) Q := by
  refine ⟨rfl, ?_⟩
  have hn10 := hS.cb.n10
  show mj_run (mj_ev (d + 11)) k113 Q (k113 0) [some (.ref 0), some (.int (nI a)), some (.int (nI b))] [] (107, I, L, P) 2 12
  refine q_5 rfl ?_
  refine q_3 rfl ?_
  refine q_47 (mj_ev_mono _) [_] rfl rfl rfl (by decide) rfl rfl rfl ?_
  refine c_149T hP hS.cb.hn hn10 ha ?_
  refine q_5 rfl ?_
  refine q_3 rfl ?_
  refine q_47 (mj_ev_mono _) [_] rfl rfl rfl (by decide) rfl rfl rfl ?_
  refine c_149T hP hS.cb.hn hn10 hb ?_
  refine q_5 rfl ?_
  refine q_3 rfl ?_
  refine q_3 rfl ?_
  refine q_47 (mj_ev_mono _) [_, _] rfl rfl rfl (by decide) rfl rfl rfl ?_
  refine c_155T hP hS ha hb hab hma hmb ?_
  first | refine q_neN0 (by omega) (fun hh => ?_) (fun hh => absurd hh (by omega)) | refine q_neI0 (fun hh => ?_) (fun hh => absurd (by omega) hh)
  refine q_5 rfl ?_
  refine q_33 rfl (by decide) (hP _ _ _ rfl) ?_
  refine q_47 (mj_ev_mono _) [] rfl rfl rfl (by decide) rfl rfl rfl ?_
  refine c_10 hP hS (fun I1 e1 hS1 => ?_)
  refine q_5 rfl ?_
  refine q_33 rfl (by decide) (hP _ _ _ rfl) ?_
  refine q_33 rfl (by decide) (hP _ _ _ rfl) ?_
  refine q_3 rfl ?_
  refine q_3 rfl ?_
  refine q_42 _ rfl (by decide) rfl (by show _ < 10; omega) (by decide) ?_
  refine q_5 rfl ?_
  refine q_33 rfl (by decide) (hP _ _ _ rfl) ?_
  refine q_33 rfl (by decide) (hP _ _ _ rfl) ?_
  refine q_3 rfl ?_
  refine q_3 rfl ?_
  refine q_42 _ rfl (by decide) rfl (by show _ < 10; omega) (by decide) ?_
  refine q_5 rfl ?_
  refine q_47 (mj_ev_mono _) [] rfl rfl rfl (by decide) rfl rfl rfl ?_
  refine c_158 hP ?_
  refine q_0 ?_
  refine q_27 (by first | exact Or.inl rfl | exact Or.inr rfl | assumption | (split <;> first | exact Or.inl rfl | exact Or.inr rfl)) ?_
  refine k _ L (hS1.rowB ((Eqf.rf.up rfl).up rfl) (CW_ms hS1.cb.cw (gm_bnd hS.cb.cw.gm ha hb hab hma hmb) (fun p hp => ?_) rfl rfl)) (fun c j h73 => ?_) (fun _ _ _ => rfl)
  · show _ = mI (if p < A.w.n then (if p = b then some a else if p = a then some b else A.m p) else none)
    by_cases e1 : p = b
    · subst e1
      rw [upI_s, if_pos hb, if_pos rfl]
      rfl
    · rw [upI_j e1, if_neg e1]
      by_cases e2 : p = a
      · subst e2
        rw [upI_s, if_pos ha, if_pos rfl]
        rfl
      · rw [upI_j e2, if_neg e2]
        exact hS1.cb.cw.2.2.2.1 p hp
  · exact (uB_f c j (frm_hi h73 rfl rfl)).trans ((congrFun (upI_c (by omega)) j).trans ((congrFun (upI_c (by omega)) j).trans (e1 c j (frm_hi h73 rfl rfl))))
theorem c_113R (hP : PS t P) (hS : CS A I) (ha : a < A.w.n) (hb : b < A.w.n) (hr : a = b ∨ A.m a ≠ none ∨ A.m b ≠ none) (k : kC Q I L P (A.rfs 1) (.inl (some (.int (nI 0))))) : mj_ev (d + 12) 113 [.ref 0, .int (nI a), .int (nI b)] (107, I, L, P) Q := by
  refine ⟨rfl, ?_⟩
  have hn10 := hS.cb.n10
  have r2 := hS.cb.rf (k := 1) (by omega)
  show mj_run (mj_ev (d + 11)) k113 Q (k113 0) [some (.ref 0), some (.int (nI a)), some (.int (nI b))] [] (107, I, L, P) 2 12
  refine q_5 rfl ?_
  refine q_3 rfl ?_
  refine q_47 (mj_ev_mono _) [_] rfl rfl rfl (by decide) rfl rfl rfl ?_
  refine c_149T hP hS.cb.hn hn10 ha ?_
  refine q_5 rfl ?_
  refine q_3 rfl ?_
  refine q_47 (mj_ev_mono _) [_] rfl rfl rfl (by decide) rfl rfl rfl ?_
  refine c_149T hP hS.cb.hn hn10 hb ?_
  refine q_5 rfl ?_
  refine q_3 rfl ?_
  refine q_3 rfl ?_
  refine q_47 (mj_ev_mono _) [_, _] rfl rfl rfl (by decide) rfl rfl rfl ?_
  refine c_155F hP hS ha hb hr ?_
  first | refine q_neN0 (by omega) (fun hh => absurd hh (by omega)) (fun hh => ?_) | refine q_neI0 (fun hh => absurd hh (by omega)) (fun hh => ?_)
  refine q_5 rfl ?_
  refine q_33 rfl (by decide) (hP _ _ _ rfl) ?_
  refine q_0 ?_
  refine q_20 rfl rfl ?_
  first | refine q_38E _ rfl (by decide) rfl (by show _ < 3; omega) (by decide) (r2) ?_ | refine q_38 _ rfl (by decide) rfl (by show _ < 3; omega) (by decide) ?_
  refine q_0 ?_
  first | refine q_add ?_ | refine q_11 rfl ?_
  refine q_42 _ rfl (by decide) rfl (by show _ < 3; omega) (by decide) ?_
  refine q_0 ?_
  refine q_27 (by first | exact Or.inl rfl | exact Or.inr rfl | assumption | (split <;> first | exact Or.inl rfl | exact Or.inr rfl)) ?_
  exact k.ref (by omega) hS
end C
