/-! the model reads: an EXPR whole, numbers -/
theorem t_num {b : Nat → Nat} {n j : Nat} (h : tK b n j = 20) : (∀ i, i < tD b n j → 48 ≤ b (tB b n j + i) ∧ b (tB b n j + i) ≤ 57) ∧ tV b n j < 10000 := by
  have h1 := t_adv (b := b) (n := n) (j := j) (by omega)
  have hk : tK b n j = knd1 b n (tB b n j) := rfl
  have hD : tD b n j = nx1 b n (tB b n j) - tB b n j := rfl
  unfold tV
  generalize tD b n j = e at *
  generalize tB b n j = s at *
  have hd : isL (b s) = false ∧ isD (b s) = true := by
    rw [hk] at h
    unfold knd1 at h
    rw [if_neg (by omega)] at h
    split at h
    · have := kwd_le (b := b) (s := s) (l := wnd b n s - s)
      omega
    · rename_i q
      refine ⟨by cases hl : isL (b s) with
        | true => exact absurd hl q
        | false => rfl, ?_⟩
      split at h
      · assumption
      · split at h
        · rename_i q3
          rw [isSg_iff] at q3
          omega
        · omega
  have hn : nx1 b n s = dnd b n s := by
    unfold nx1
    rw [if_neg (by omega), if_neg (by rw [hd.1]; decide), if_pos hd.2]
  have hs : s ≤ n := by omega
  obtain ⟨g1, g2, g3, g4⟩ := upTo_spec (q := fun i => isD (b i)) hs
  have hdg : ∀ i, i < e → 48 ≤ b (s + i) ∧ b (s + i) ≤ 57 := fun i hi => isD_iff.mp (g3 (s + i) (by omega) (by rw [hD, hn] at hi; unfold dnd at hi; omega))
  refine ⟨hdg, ?_⟩
  have h4 : min4 e ≤ 4 ∧ min4 e ≤ e := by unfold min4; split <;> omega
  have h2 := dgv_lt (b := b) (s := s) (k := min4 e) (fun q hq => (hdg q (by omega)).2)
  exact Nat.lt_of_lt_of_le h2 (Nat.le_trans (Nat.pow_le_pow_right (by decide) h4.1) (by decide))
/-- an EXPR from token j -/
def EX (b : Nat → Nat) (n lo hi j : Nat) : PR1 := px (tK b n) (tV b n) (tD b n) lo hi 8500 0 0 j
theorem EX_no {b : Nat → Nat} {n lo hi j c jf : Nat} (hn : n ≤ 700) (hj : j ≤ n) (h : EX b n lo hi j = .inl (c, jf)) : c ≠ 99 := by
  rintro rfl
  exact px_fuel (m := n) tK_n 8500 0 0 j (Or.inl (by omega)) hj (by have : rk 0 = 8 := rfl; omega) jf h
theorem EX_ok {b : Nat → Nat} {n lo hi j j2 : Nat} {R : RP} (h : EX b n lo hi j = .inr (j2, R)) : j < j2 ∧ R.length + j ≤ j2 ∧ (∀ i, j ≤ i → i < j2 → tK b n i ≠ 21) ∧ rpok lo hi 36 R 0 := by
  obtain ⟨h1, h2, h3⟩ := px_adv _ _ _ _ _ _ (Or.inl (by omega)) h
  refine ⟨h1 (by omega), h2, h3, ?_⟩
  have := px_pile (fun j hj _ => (t_num hj).2) _ _ _ _ _ _ (Or.inl (by omega)) (by omega) h 0 [] rfl (by rw [if_pos (by omega)]; omega)
  rw [List.append_nil, if_pos (by omega)] at this
  exact this
def XF5 : List (Nat × Nat) := (73, 26) :: (73, 27) :: XF4
section M
variable {I : mj_I} {L : mj_L} {P : mj_P} {Q : mj_Q} {d n r t j : Nat} {b : Nat → Nat} {O : List Nat} {lo hi : Nat}
/-- the first step in -/
theorem s_188z (hP : PS t P) (h29 : I 73 29 = nI 0) (k : Q (.inl none) (107, mj_upI (mj_upI I 73 29 (nI 1)) 88 1 (vp_nar .boolean (nI 0)), L, P)) : mj_ev (d + 1) 188 [.ref 73] (107, I, L, P) Q := by
  refine ⟨rfl, ?_⟩
  have a7b : mj_upI I 73 29 (nI 1) 73 29 = nI 1 := upI_s
  show mj_run (mj_ev d) k188 Q (k188 0) [some (.ref 73)] [] (107, I, L, P) 0 0
  refine q_5 rfl ?_
  first | refine q_31E rfl (by decide) h29 ?_ | refine q_31E rfl (by decide) a7b ?_ | refine q_31 rfl (by decide) ?_
  refine q_0 ?_
  refine q_geN (by omega) (by omega) (fun hh => absurd hh (by omega)) (fun hh => ?_)
  refine q_5 rfl ?_
  refine q_18 rfl ?_
  first | refine q_31E rfl (by decide) h29 ?_ | refine q_31E rfl (by decide) a7b ?_ | refine q_31 rfl (by decide) ?_
  refine q_0 ?_
  first | refine q_add ?_ | refine q_11 rfl ?_
  refine q_34 rfl (by decide) ?_
  refine q_5 rfl ?_
  refine q_33 rfl (by decide) (hP _ _ _ rfl) ?_
  refine q_5 rfl ?_
  first | refine q_31E rfl (by decide) h29 ?_ | refine q_31E rfl (by decide) a7b ?_ | refine q_31 rfl (by decide) ?_
  refine q_0 ?_
  refine q_45 _ rfl (by decide) rfl (by show _ < 9; omega) (by decide) ?_
  refine q_25 ?_
  exact k
theorem s_192 (hP : PS t P) (hB : MB b n I) (hT : TM b n j I L) (h11 : GD I) (h25 : I 73 25 = nI O.length) (hO : OUT O (I 86)) (hb : O.length + 2 ≤ 2 * tkp b n j) (hjn : j ≤ n) (lo9 : lo < 100) (hi9 : hi < 100)
    (kF : ∀ c jf, EX b n lo hi j = .inl (c, jf) → 0 < c → c < 10 → ∀ I' L', Eqf (frm [86, 87, 88] XF5) I I' → EqL (frm [] [(73, 21)]) L L' → I' 73 11 = nI c → I' 73 12 = nI (tB b n jf) → Q (.inl none) (107, I', L', P))
    (kS : ∀ j2 R, EX b n lo hi j = .inr (j2, R) → ∀ I' L', Eqf (frm [86, 87, 88] XF5) I I' → EqL (frm [] [(73, 21)]) L L' → TM b n j2 I' L' → GD I' → I' 73 25 = nI (O ++ enc R ++ [0]).length → OUT (O ++ enc R ++ [0]) (I' 86) → Q (.inl none) (107, I', L', P)) : mj_ev (d + 6) 192 [.ref 73, .int (nI lo), .int (nI hi)] (107, I, L, P) Q := by
  refine ⟨rfl, ?_⟩
  show mj_run (mj_ev (d + 5)) k192 Q (k192 0) [some (.ref 73), some (.int (nI lo)), some (.int (nI hi)), none, none] [] (107, I, L, P) 0 0
  have hn7 : n ≤ 700 := hB.2.1
  obtain ⟨I1, hI1⟩ : ∃ I1, I1 = mj_upI (mj_upI (mj_upI (mj_upI (mj_upI (mj_upI I 73 26 (nI lo)) 73 27 (nI hi)) 73 28 (nI 0)) 73 29 (nI 0)) 73 29 (nI 1)) 88 1 (vp_nar .boolean (nI 0)) := ⟨_, rfl⟩
  have E1 : Eqf (frm [86, 87, 88] XF5) I I1 := by
    rw [hI1]
    exact (((((Eqf.rf.up rfl).up rfl).up rfl).up rfl).up rfl).up rfl
  have hX1 : XS0 b n j [] 1 (fun _ => false) O I1 L := by
    rw [hI1]
    refine ⟨hB.fr (fun _ => rfl) rfl, hT.fr (fun q hq => by rcases hq with rfl | rfl | rfl | rfl | rfl | rfl <;> rfl) rfl, h11, ⟨rfl, trivial, fun a ha => absurd ha List.not_mem_nil⟩, ⟨rfl, by omega, by omega, fun i g1 g2 => ?_⟩, h25, hO⟩
    rw [show i = 1 by omega, upI_s, nb0]
    rfl
  have h26 : I1 73 26 = nI lo := by rw [hI1]; rfl
  have h27 : I1 73 27 = nI hi := by rw [hI1]; rfl
  have hb1 : XB b n j [] O := ⟨by show O.length + 0 + 2 ≤ _; omega, Nat.zero_le _⟩
  have sy := (SY (rulM (b := b) (n := n) (I := I1) (L := L) (d := d) (Q := Q) (P := P) hP h26 h27 lo9 hi9) 8500).1 0 (by omega) 0 j [] 1 (fun _ => false) O rfl (by omega) trivial (fun _ => rfl)
  have key : OPm b n d Q P lo hi I1 L true j [] 1 (fun _ => false) O := by
    cases e : EX b n lo hi j with
    | inl q =>
      obtain ⟨c, jf⟩ := q
      refine sy.1 c jf e (EX_no hn7 hjn e) ?_
      intro I' L' E EL hF x3 x4
      obtain ⟨c0, c9, g11, g12, W, o, g28, gw, ga, gl, g25, go⟩ := hF
      obtain ⟨O', l', hO'⟩ := out_any (I' 86) o
      rw [← l'] at g25 go
      refine q_5 rfl ?_
      refine q_0 ?_
      refine q_47 (mj_ev_mono _) [_] rfl rfl rfl (by decide) rfl rfl rfl ?_
      refine s_185 (l := 0) hP (by omega) g28 gw ga g25 hO' gl (by omega) (fun I2 e2 f1 f2 f3 => ?_)
      have dl := dp_len (l := 0) W
      refine q_5 rfl ?_
      refine q_0 ?_
      refine q_47 (mj_ev_mono _) [_] rfl rfl rfl (by decide) rfl rfl rfl ?_
      refine s_182B hP f2 (by rw [List.length_append]; omega) (fun I3 e3 f4 => ?_)
      refine q_25 ?_
      exact kF c jf e c0 c9 I3 L' (((E1.tr (E.to rfl rfl)).tr (e2.to rfl rfl)).tr (e3.to rfl rfl)) EL (by rw [e3 73 11 rfl, e2 73 11 rfl]; exact g11) (by rw [e3 73 12 rfl, e2 73 12 rfl]; exact g12)
    | inr q =>
      obtain ⟨j2, R⟩ := q
      refine sy.2 j2 R e ?_
      intro p X ts' g1 g2 g3 g4 g5 hb2 I' L' E EL hX
      have hn2 : ∀ l, l ≠ 2 → jn l (tK b n j2) = none := fun l hl => by
        have := px_nj (K := tK b n) (V := tV b n) (G := tD b n) (lo := lo) (hi := hi) 8500 0 0 j j2 R (by omega) (fun q => absurd q (by omega)) e l
        rw [if_neg (by omega)] at this
        exact this (Nat.zero_le _) hl
      have tp := hb2.top hn7
      obtain ⟨d1, d2⟩ := dp_pn (W := []) (s := 0) trivial (g2.lo (Nat.zero_le _))
      have pm : ∀ a, a ∈ p ++ [] → 3 ≤ a ∧ a ≤ 11 := fun a ha => by
        rw [List.append_nil] at ha
        exact ⟨(g2 a ha).1, (g2 a ha).2.1⟩
      refine hd_exit hP hX hn2 (g5 (by omega)) (fun _ => ⟨pm, by omega⟩) (fun x4 => ?_)
      have z29 := hX.2.2.2.2.1.1
      refine q_5 rfl ?_
      refine q_47 (mj_ev_mono _) [] rfl rfl rfl (by decide) rfl rfl rfl ?_
      refine s_177G hX.g ?_
      first | refine q_eqN0 (by omega) (fun hh => absurd hh (by omega)) (fun hh => ?_) | refine q_eqI0 (fun hh => absurd hh (by omega)) (fun hh => ?_)
      refine q_5 rfl ?_
      first | refine q_31E rfl (by decide) z29 ?_ | refine q_31 rfl (by decide) ?_
      refine q_0 ?_
      refine q_leN (by omega) (by omega) (fun hh => ?_) (fun hh => absurd hh (by omega))
      refine q_5 rfl ?_
      refine q_0 ?_
      refine q_47 (mj_ev_mono _) [_] rfl rfl rfl (by decide) rfl rfl rfl ?_
      refine s_185 (l := 0) hP (by omega) hX.2.2.2.1.1 hX.2.2.2.1.2.1 hX.2.2.2.1.2.2 hX.2.2.2.2.2.1 hX.2.2.2.2.2.2 (by omega) (by omega) (fun I2 e2 f1 f2 f3 => ?_)
      rw [d1, List.append_assoc, ← g1] at f2 f3
      refine q_5 rfl ?_
      refine q_0 ?_
      refine q_47 (mj_ev_mono _) [_] rfl rfl rfl (by decide) rfl rfl rfl ?_
      refine s_182 (v := 0) hP f2 f3 (by rw [g1, List.length_append, List.length_append]; rw [List.length_append, List.length_append] at tp; omega) (fun I3 e3 f4 f5 => ?_)
      refine q_25 ?_
      exact kS j2 R e I3 L' (((E1.tr (E.to rfl rfl)).tr (e2.to rfl rfl)).tr (e3.to rfl rfl)) EL (hX.tm.fr (fun q hq => by rcases hq with rfl | rfl | rfl | rfl | rfl | rfl <;> rw [e3 _ _ rfl, e2 _ _ rfl]) rfl) ⟨by rw [e3 73 11 rfl, e2 73 11 rfl]; exact hX.gd.1, by rw [e3 73 12 rfl, e2 73 12 rfl]; exact hX.gd.2⟩ f4 f5
  have opr := key hb1 I1 L Eqf.rf (fun _ _ _ => rfl) hX1
  refine q_5 rfl ?_
  refine q_47 (mj_ev_mono _) [] rfl rfl rfl (by decide) rfl rfl rfl ?_
  refine s_177G h11.1 ?_
  first | refine q_neN0 (by omega) (fun hh => ?_) (fun hh => absurd hh (by omega)) | refine q_neI0 (fun hh => ?_) (fun hh => absurd (by omega) hh)
  refine q_5 rfl ?_
  refine q_3 rfl ?_
  refine q_34 rfl (by decide) ?_
  refine q_5 rfl ?_
  refine q_3 rfl ?_
  refine q_34 rfl (by decide) ?_
  refine q_5 rfl ?_
  refine q_0 ?_
  refine q_34 rfl (by decide) ?_
  refine q_5 rfl ?_
  refine q_0 ?_
  refine q_34 rfl (by decide) ?_
  refine q_5 rfl ?_
  refine q_47 (mj_ev_mono _) [] rfl rfl rfl (by decide) rfl rfl rfl ?_
  refine s_188z hP rfl ?_
  rw [← hI1]
  refine q_5 rfl ?_
  refine q_0 ?_
  refine q_47 (mj_ev_mono _) [_] rfl rfl rfl (by decide) rfl rfl rfl ?_
  refine op_call (mn := true) (fun x1 x4 => opr x1 x4) (fun σ hh2 => ?_)
  refine q_0 ?_
  refine q_6 rfl rfl rfl ?_
  exact hh2 _
end M
