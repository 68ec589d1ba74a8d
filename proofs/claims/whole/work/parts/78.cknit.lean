/-! the class: a sock that is alike to one alone -/
theorem rpn_cg {val val' : Nat → Int32} : ∀ {R : RP} {s : List Int32}, (∀ v, (2, v) ∈ R → val v = val' v) → rpn val R s = rpn val' R s
  | [], _, _ => rfl
  | q :: R, s, h => by
    show rpn val R (stp val q.1 q.2 s) = rpn val' R (stp val' q.1 q.2 s)
    have e : stp val q.1 q.2 s = stp val' q.1 q.2 s := by
      unfold stp
      by_cases h1 : q.1 = 1
      · rw [if_pos h1, if_pos h1]
      · rw [if_neg h1, if_neg h1]
        by_cases h2 : q.1 = 2
        · rw [if_pos h2, if_pos h2, h q.2 (by rw [← h2]; exact List.mem_cons_self)]
        · rw [if_neg h2, if_neg h2]
    rw [e]
    exact rpn_cg (fun v hv => h v (List.mem_cons_of_mem _ hv))
theorem rpv_cg {val val' : Nat → Int32} {R : RP} (h : ∀ v, (2, v) ∈ R → val v = val' v) : rpv val R = rpv val' R := by
  unfold rpv
  rw [rpn_cg h]
theorem knf_cg {w : WT} {c h : Nat → Nat} {p s cl pt wl s' cl' pt' wl' : Nat} (e : ∀ q, q < w.n → alK w c h q s cl pt wl = alK w c h q s' cl' pt' wl') : knf w c h p s cl pt wl = knf w c h p s' cl' pt' wl' := by
  unfold knf
  rw [fnd_congr (p' := knd w c h p s' cl' pt' wl') (fun q _ hq => by unfold knd; rw [e q hq])]
/-- VALUES that aren't looked at -/
def nlk (w : WT) (v : Nat) : Prop := ∃ R, w.al = some R ∧ (2, v) ∉ R
theorem vA_o {c s h w p o l c' s' p' o' l' v : Nat} (h0 : v = 0 → c = c') (h1 : v = 1 → s = s') (h3 : v = 3 → p = p') (h4 : v = 4 → o = o') (h5 : v = 5 → l = l') : vA c s h w p o l v = vA c' s' h w p' o' l' v := by
  unfold vA
  by_cases q0 : v = 0
  · rw [if_pos q0, if_pos q0, h0 q0]
  · rw [if_neg q0, if_neg q0]
    by_cases q1 : v = 1
    · rw [if_pos q1, if_pos q1, h1 q1]
    · rw [if_neg q1, if_neg q1]
      by_cases q2 : v = 2
      · rw [if_pos q2, if_pos q2]
      · rw [if_neg q2, if_neg q2]
        by_cases q3 : v = 3
        · rw [if_pos q3, if_pos q3, h3 q3]
        · rw [if_neg q3, if_neg q3]
          by_cases q4 : v = 4
          · rw [if_pos q4, if_pos q4, h4 q4]
          · rw [if_neg q4, if_neg q4]
            by_cases q5 : v = 5
            · rw [if_pos q5, if_pos q5, h5 q5]
            · rw [if_neg q5, if_neg q5]
section K
variable {w : WT} {c h : Nat → Nat} {p s cl pt wl s' cl' pt' wl' : Nat}
theorem kn_s (hl : nlk w 1) : knf w c h p s cl pt wl = knf w c h p s' cl pt wl := by
  obtain ⟨R, hR, hn⟩ := hl
  refine knf_cg (fun q _ => ?_)
  unfold alK alkV
  rw [hR]
  exact rpv_cg (fun v hv => vA_o (fun _ => rfl) (fun e => by rw [e] at hv; exact absurd hv hn) (fun _ => rfl) (fun _ => rfl) (fun _ => rfl))
theorem kn_c (hl : nlk w 0) : knf w c h p s cl pt wl = knf w c h p s cl' pt wl := by
  obtain ⟨R, hR, hn⟩ := hl
  refine knf_cg (fun q _ => ?_)
  unfold alK alkV
  rw [hR]
  exact rpv_cg (fun v hv => vA_o (fun e => by rw [e] at hv; exact absurd hv hn) (fun _ => rfl) (fun _ => rfl) (fun _ => rfl) (fun _ => rfl))
theorem kn_p (hl : nlk w 3) (hl2 : nlk w 5) : knf w c h p s cl pt wl = knf w c h p s cl pt' wl := by
  obtain ⟨R, hR, hn⟩ := hl
  obtain ⟨R2, hR2, hn2⟩ := hl2
  rw [hR] at hR2
  cases hR2
  refine knf_cg (fun q _ => ?_)
  unfold alK alkV
  rw [hR]
  exact rpv_cg (fun v hv => vA_o (fun _ => rfl) (fun _ => rfl) (fun e => by rw [e] at hv; exact absurd hv hn) (fun _ => rfl) (fun e => by rw [e] at hv; exact absurd hv hn2))
theorem kn_w (hl : w.al = none ∨ nlk w 4) : knf w c h p s cl pt wl = knf w c h p s cl pt wl' := by
  refine knf_cg (fun q _ => ?_)
  unfold alK alkV
  rcases hl with hl | ⟨R, hR, hn⟩
  · rw [hl]
  · rw [hR]
    exact rpv_cg (fun v hv => vA_o (fun _ => rfl) (fun _ => rfl) (fun _ => rfl) (fun e => by rw [e] at hv; exact absurd hv hn) (fun _ => rfl))
def KT (s cl pt wl : Nat) : Nat := 160 * (s - 1) + 16 * cl + 4 * pt + wl
theorem knp_K (hs : 1 ≤ s) (hc : cl < 10) (hp : pt < 4) (hw : wl < 4) : knp w c h p (KT s cl pt wl) = knf w c h p s cl pt wl := by
  unfold knp KT
  rw [show (160 * (s - 1) + 16 * cl + 4 * pt + wl) / 160 + 1 = s by omega, show (160 * (s - 1) + 16 * cl + 4 * pt + wl) % 160 / 16 = cl by omega, show (160 * (s - 1) + 16 * cl + 4 * pt + wl) % 160 / 4 % 4 = pt by omega, show (160 * (s - 1) + 16 * cl + 4 * pt + wl) % 160 % 4 = wl by omega]
theorem KT_of {T : Nat} : T = KT (T / 160 + 1) (T % 160 / 16) (T % 160 / 4 % 4) (T % 160 % 4) := by
  unfold KT
  omega
/-- none below T -/
def ZN (w : WT) (c h : Nat → Nat) (p T : Nat) : Prop := ∀ x, x < T → knp w c h p x = false
theorem ZN_w (hz : ZN w c h p (KT s cl pt 1)) (hl : w.al = none ∨ nlk w 4) (hs : 1 ≤ s) (hc : cl < 10) (hp : pt < 4) : ZN w c h p (KT s cl pt 4) := by
  intro x hx
  by_cases q : x < KT s cl pt 1
  · exact hz x q
  · unfold KT at hx q
    have e1 : x = KT s cl pt (x - KT s cl pt 0) := by unfold KT; omega
    have e2 : x - KT s cl pt 0 < 4 := by unfold KT; omega
    rw [e1, knp_K hs hc hp e2, kn_w (wl' := 0) hl, ← knp_K hs hc hp (by omega)]
    exact hz _ (by unfold KT; omega)
theorem ZN_p (hz : ZN w c h p (KT s cl 1 0)) (hl : nlk w 3) (hl2 : nlk w 5) (hs : 1 ≤ s) (hc : cl < 10) : ZN w c h p (KT s cl 4 0) := by
  intro x hx
  by_cases q : x < KT s cl 1 0
  · exact hz x q
  · unfold KT at hx q
    have e1 : x = KT s cl (x % 160 / 4 % 4) (x % 4) := by unfold KT; omega
    rw [e1, knp_K hs hc (by omega) (by omega), kn_p (pt' := 0) hl hl2, ← knp_K hs hc (by omega) (by omega)]
    exact hz _ (by unfold KT; omega)
theorem ZN_c (hz : ZN w c h p (KT s 1 0 0)) (hl : nlk w 0) (hs : 1 ≤ s) : ZN w c h p (KT s 10 0 0) := by
  intro x hx
  by_cases q : x < KT s 1 0 0
  · exact hz x q
  · unfold KT at hx q
    have e1 : x = KT s (x % 160 / 16) (x % 160 / 4 % 4) (x % 4) := by unfold KT; omega
    rw [e1, knp_K hs (by omega) (by omega) (by omega), kn_c (cl' := 0) hl, ← knp_K hs (by omega) (by omega) (by omega)]
    exact hz _ (by unfold KT; omega)
theorem ZN_s (hz : ZN w c h p (KT 2 0 0 0)) (hl : nlk w 1) : ZN w c h p (KT 31 0 0 0) := by
  intro x hx
  by_cases q : x < KT 2 0 0 0
  · exact hz x q
  · unfold KT at hx q
    have e1 : x = KT (x / 160 + 1) (x % 160 / 16) (x % 160 / 4 % 4) (x % 4) := by unfold KT; omega
    rw [e1, knp_K (by omega) (by omega) (by omega) (by omega), kn_s (s' := 1) hl, ← knp_K (by omega) (by omega) (by omega) (by omega)]
    exact hz _ (by unfold KT; omega)
end K
section C
variable {I : mj_I} {L : mj_L} {P : mj_P} {Q : mj_Q} {d n r t a b : Nat} {A : AS} {w : WT} {c h c' h' : Nat → Nat} {m : MM} {al : Nat → Nat → Int32}
theorem c_60 {B : Nat} {bs : List Nat} (hP : PS t P) (hW : CT w I) (hB : B < 2 ^ 20) (hb : ∀ v, v ∈ bs → v ≤ 6 ∧ B.testBit (kv v) = true) (k : ∀ z, z = 0 ∨ z = 1 → (z = 0 → w.al ≠ none → ∀ v, v ∈ bs → nlk w v) → (w.al = none → (z = 0 ↔ -(nI 32769) &&& nI B = 0)) → Q (.inl (some (.int (nI z)))) (107, I, L, P)) : mj_ev (d + 2) 60 [.ref 12, .int (nI B)] (107, I, L, P) Q := by
  refine ⟨rfl, ?_⟩
  show mj_run (mj_ev (d + 1)) k60 Q (k60 0) [some (.ref 12), some (.int (nI B)), none] [] (107, I, L, P) 0 0
  cases hal : w.al with
  | none =>
    have hr := hW.2.2.2.1
    rw [hal] at hr k
    obtain ⟨q2, q3⟩ := hr
    by_cases hz : -(nI 32769) &&& nI B = 0
    · refine q_5 rfl ?_
      refine q_47 (mj_ev_mono _) [] rfl rfl rfl (by decide) rfl rfl rfl ?_
      refine c_56F q2 q3 ?_
      first | refine q_eqN0 (by omega) (fun hh => ?_) (fun hh => absurd hh (by omega)) | refine q_eqI0 (fun hh => ?_) (fun hh => absurd (by omega) hh)
      refine q_1 ?_
      refine q_6 rfl rfl rfl ?_
      refine q_3 rfl ?_
      refine q_3 rfl ?_
      refine q_11 rfl ?_
      refine q_eqI0 (fun _ => ?_) (fun z => absurd hz z)
      refine q_0 ?_
      refine q_27 (by first | exact Or.inl rfl | exact Or.inr rfl | assumption | (split <;> first | exact Or.inl rfl | exact Or.inr rfl)) ?_
      exact k 0 (Or.inl rfl) (fun _ q => absurd rfl q) (fun _ => ⟨fun _ => hz, fun _ => rfl⟩)
    · refine q_5 rfl ?_
      refine q_47 (mj_ev_mono _) [] rfl rfl rfl (by decide) rfl rfl rfl ?_
      refine c_56F q2 q3 ?_
      first | refine q_eqN0 (by omega) (fun hh => ?_) (fun hh => absurd hh (by omega)) | refine q_eqI0 (fun hh => ?_) (fun hh => absurd (by omega) hh)
      refine q_1 ?_
      refine q_6 rfl rfl rfl ?_
      refine q_3 rfl ?_
      refine q_3 rfl ?_
      refine q_11 rfl ?_
      refine q_eqI0 (fun z => absurd z hz) (fun _ => ?_)
      refine q_0 ?_
      refine q_23 ?_
      refine q_27 (by first | exact Or.inl rfl | exact Or.inr rfl | assumption | (split <;> first | exact Or.inl rfl | exact Or.inr rfl)) ?_
      exact k 1 (Or.inr rfl) (fun q => absurd q (by decide)) (fun _ => ⟨fun q => absurd q (by decide), fun q => absurd q hz⟩)
  | some R =>
    have hr := hW.2.2.2.1
    rw [hal] at hr k
    obtain ⟨k0, q2, q3, hk, hf, hok, hpos⟩ := hr
    obtain ⟨M, hM, h6, hbits⟩ := hW.2.2.2.2.2 R hal
    have ml : M &&& B < 2 ^ 31 := Nat.lt_of_le_of_lt Nat.and_le_right (by omega)
    by_cases hz : M &&& B = 0
    · refine q_5 rfl ?_
      refine q_47 (mj_ev_mono _) [] rfl rfl rfl (by decide) rfl rfl rfl ?_
      refine c_56T (x := 0) q2 q3 (by omega) (by omega) ?_
      first | refine q_eqN0 (by omega) (fun hh => absurd hh (by omega)) (fun hh => ?_) | refine q_eqI0 (fun hh => absurd hh (by omega)) (fun hh => ?_)
      refine q_5 rfl ?_
      first | refine q_31E rfl (by decide) h6 ?_ | refine q_31 rfl (by decide) ?_
      refine q_23 ?_
      refine q_6 rfl rfl rfl ?_
      refine q_3 rfl ?_
      refine q_3 rfl ?_
      first | refine q_andN ?_ | refine q_11 rfl ?_
      first | refine q_eqN0 (by omega) (fun hh => ?_) (fun hh => absurd hh (by omega)) | refine q_eqI0 (fun hh => ?_) (fun hh => absurd (by omega) hh)
      refine q_0 ?_
      refine q_27 (by first | exact Or.inl rfl | exact Or.inr rfl | assumption | (split <;> first | exact Or.inl rfl | exact Or.inr rfl)) ?_
      refine k 0 (Or.inl rfl) (fun _ _ v hv => ?_) (fun q => by cases q)
      obtain ⟨g1, g2⟩ := hb v hv
      refine ⟨R, hal, fun hm => ?_⟩
      have e1 := congrArg (fun x => x.testBit (kv v)) hz
      simp only [Nat.testBit_and, g2, Bool.and_true, Nat.zero_testBit] at e1
      rw [hbits v g1] at e1
      rw [show R.any (fun q => decide (q = (2, v))) = true from List.any_eq_true.mpr ⟨(2, v), hm, decide_eq_true rfl⟩] at e1
      cases e1
    · refine q_5 rfl ?_
      refine q_47 (mj_ev_mono _) [] rfl rfl rfl (by decide) rfl rfl rfl ?_
      refine c_56T (x := 0) q2 q3 (by omega) (by omega) ?_
      first | refine q_eqN0 (by omega) (fun hh => absurd hh (by omega)) (fun hh => ?_) | refine q_eqI0 (fun hh => absurd hh (by omega)) (fun hh => ?_)
      refine q_5 rfl ?_
      first | refine q_31E rfl (by decide) h6 ?_ | refine q_31 rfl (by decide) ?_
      refine q_23 ?_
      refine q_6 rfl rfl rfl ?_
      refine q_3 rfl ?_
      refine q_3 rfl ?_
      first | refine q_andN ?_ | refine q_11 rfl ?_
      first | refine q_eqN0 (by omega) (fun hh => absurd hh (by omega)) (fun hh => ?_) | refine q_eqI0 (fun hh => absurd hh (by omega)) (fun hh => ?_)
      refine q_0 ?_
      refine q_23 ?_
      refine q_27 (by first | exact Or.inl rfl | exact Or.inr rfl | assumption | (split <;> first | exact Or.inl rfl | exact Or.inr rfl)) ?_
      exact k 1 (Or.inr rfl) (fun q => absurd q (by decide)) (fun q => by cases q)
/-- a sock in the last place -/
def CKN (s pt wl : Nat) (I : mj_I) : Prop := I 6 10 = nI s ∧ I 4 10 = nI pt ∧ I 5 10 = nI wl
theorem c_90 {s cl pt wl : Nat} (hP : PS t P) (hW : CT w I) (hR : CW w.n 32 33 34 c h m I) (ha : a < w.n) (hK : CKN s pt wl I) (hz : s < 100 ∧ cl < 100 ∧ pt < 100 ∧ wl < 100) (k : ∀ I', Eqf (frm [13, 15] []) I I' → Q (.inl (some (.int (nI (if knf w c h a s cl pt wl then 1 else 0))))) (107, I', L, P)) : mj_ev (d + 3) 90 [.ref 3, .int (nI cl), .int (nI a), .ref 31] (107, I, L, P) Q := by
  refine ⟨rfl, ?_⟩
  have hn10 := hR.n10
  have lk : ∀ q, q < w.n → ∀ I1, Eqf (frm [13, 15] []) I I1 → ∀ Q1 : mj_Q, (∀ I', Eqf (frm [13, 15] []) I1 I' → Q1 (.inl (some (.int (alK w c h q s cl pt wl)))) (107, I', L, P)) → mj_ev (d + 2) 87 [.ref 3, .int (nI q), .int (nI (c q)), .int (nI (h q)), .int (nI 10), .int (nI cl), .int (nI 0)] (107, I1, L, P) Q1 := by
    intro q hq I1 e1 Q1 k1
    have hW1 := hW.f13 e1
    obtain ⟨g1, g2, g3, -⟩ := hW1.2.2.1 q hq
    obtain ⟨y1, y2, y3, y4, -⟩ := hW1.1.2.1 q hq
    have z1 := hR.h10 hq
    have z2 := hR.c10 hq
    exact c_87 hP (by omega) (by omega) hW1.2.2.2.1 g1 g2 g3 ((e1 4 10 rfl).trans hK.2.1) ((e1 5 10 rfl).trans hK.2.2) ((e1 6 10 rfl).trans hK.1) (by omega) (by omega) k1
  have hol : ∀ q, q < w.n → ∀ I1, Eqf (frm [13, 15] []) I I1 → I1 32 q = nI (c q) ∧ I1 33 q = nI (h q) := fun q hq I1 e1 => ⟨(e1 32 q rfl).trans (hR.col hq), (e1 33 q rfl).trans (hR.hol hq)⟩
  have kd : ∀ q, knd w c h a s cl pt wl q = (decide (0 < alK w c h q s cl pt wl) != decide (q = a)) := fun _ => rfl
  obtain ⟨u1, u2⟩ := hol a ha I Eqf.rf
  show mj_run (mj_ev (d + 2)) k90 Q (k90 0) [some (.ref 3), some (.int (nI cl)), some (.int (nI a)), some (.ref 31), none] [] (107, I, L, P) 0 0
  by_cases hpos : 0 < alK w c h a s cl pt wl
  · have L29 : ∀ i, i ≤ w.n → ∀ I', Eqf (frm [13, 15] []) I I' → (∀ q, q < i → knd w c h a s cl pt wl q = false) → mj_run (mj_ev (d + 2)) k90 Q (k90 29) [some (.ref 3), some (.int (nI cl)), some (.int (nI a)), some (.ref 31), some (.int (nI i))] [] (107, I', L, P) 0 0 := by
      refine loop_up ?_ (fun i hi ih => ?_)
      · intro I' e' z
        have hn := (hW.f13 e').hn
        have hkn : knf w c h a s cl pt wl = true := by
          unfold knf
          rw [fnd_none.mpr (fun j _ hj => z j hj)]
          rfl
        have k' := k I' e'
        rw [hkn, if_pos rfl] at k'
        refine q_3 rfl ?_
        refine q_5 rfl ?_
        first | refine q_31E rfl (by decide) hn ?_ | refine q_31 rfl (by decide) ?_
        refine q_geN (by omega) (by omega) (fun hh => ?_) (fun hh => absurd hh (by omega))
        refine q_0 ?_
        refine q_27 (by first | exact Or.inl rfl | exact Or.inr rfl | assumption | (split <;> first | exact Or.inl rfl | exact Or.inr rfl)) ?_
        exact k'
      · intro I' e' z
        have hn := (hW.f13 e').hn
        obtain ⟨v1, v2⟩ := hol i hi I' e'
        by_cases hia : i = a
        · refine q_3 rfl ?_
          refine q_5 rfl ?_
          first | refine q_31E rfl (by decide) hn ?_ | refine q_31 rfl (by decide) ?_
          refine q_geN (by omega) (by omega) (fun hh => absurd hh (by omega)) (fun hh => ?_)
          refine q_3 rfl ?_
          refine q_3 rfl ?_
          refine q_eqN (by omega) (by omega) (fun hh => ?_) (fun hh => absurd hh (by omega))
          first | refine q_inc rfl rfl rfl ?_ | refine q_9 rfl rfl rfl ?_
          refine q_23 ?_
          refine ih I' e' (fun q hq => ?_)
          by_cases eq : q = i
          · rw [eq, kd, hia, decide_eq_true hpos]
            simp
          · exact z q (by omega)
        · by_cases hp2 : 0 < alK w c h i s cl pt wl
          · have hkn : knf w c h a s cl pt wl = false := by
              have hk1 : knd w c h a s cl pt wl i = true := by
                rw [kd, decide_eq_true hp2, decide_eq_false hia]
                rfl
              unfold knf
              rw [fnd_is (Nat.zero_le i) hi hk1 (fun j _ hj => z j hj)]
              rfl
            refine q_3 rfl ?_
            refine q_5 rfl ?_
            first | refine q_31E rfl (by decide) hn ?_ | refine q_31 rfl (by decide) ?_
            refine q_geN (by omega) (by omega) (fun hh => absurd hh (by omega)) (fun hh => ?_)
            refine q_3 rfl ?_
            refine q_3 rfl ?_
            refine q_eqN (by omega) (by omega) (fun hh => absurd hh (by omega)) (fun hh => ?_)
            refine q_5 rfl ?_
            refine q_3 rfl ?_
            refine q_5 rfl ?_
            refine q_33 rfl (by decide) (hP _ _ _ rfl) ?_
            refine q_3 rfl ?_
            first | refine q_38E _ rfl (by decide) rfl (by show _ < 10; omega) (by decide) (v1) ?_ | refine q_38 _ rfl (by decide) rfl (by show _ < 10; omega) (by decide) ?_
            refine q_5 rfl ?_
            refine q_33 rfl (by decide) (hP _ _ _ rfl) ?_
            refine q_3 rfl ?_
            first | refine q_38E _ rfl (by decide) rfl (by show _ < 10; omega) (by decide) (v2) ?_ | refine q_38 _ rfl (by decide) rfl (by show _ < 10; omega) (by decide) ?_
            refine q_0 ?_
            refine q_3 rfl ?_
            refine q_0 ?_
            refine q_47 (mj_ev_mono _) [_, _, _, _, _, _] rfl rfl rfl (by decide) rfl rfl rfl ?_
            refine lk i hi I' e' _ (fun I1 e1 => ?_)
            refine q_leI0 (fun zz => absurd hp2 (Int32.not_lt.mpr zz)) (fun _ => ?_)
            refine q_0 ?_
            refine q_27 (by first | exact Or.inl rfl | exact Or.inr rfl | assumption | (split <;> first | exact Or.inl rfl | exact Or.inr rfl)) ?_
            have k' := k I1 (e'.tr e1)
            rw [hkn, if_neg (by decide)] at k'
            exact k'
          · refine q_3 rfl ?_
            refine q_5 rfl ?_
            first | refine q_31E rfl (by decide) hn ?_ | refine q_31 rfl (by decide) ?_
            refine q_geN (by omega) (by omega) (fun hh => absurd hh (by omega)) (fun hh => ?_)
            refine q_3 rfl ?_
            refine q_3 rfl ?_
            refine q_eqN (by omega) (by omega) (fun hh => absurd hh (by omega)) (fun hh => ?_)
            refine q_5 rfl ?_
            refine q_3 rfl ?_
            refine q_5 rfl ?_
            refine q_33 rfl (by decide) (hP _ _ _ rfl) ?_
            refine q_3 rfl ?_
            first | refine q_38E _ rfl (by decide) rfl (by show _ < 10; omega) (by decide) (v1) ?_ | refine q_38 _ rfl (by decide) rfl (by show _ < 10; omega) (by decide) ?_
            refine q_5 rfl ?_
            refine q_33 rfl (by decide) (hP _ _ _ rfl) ?_
            refine q_3 rfl ?_
            first | refine q_38E _ rfl (by decide) rfl (by show _ < 10; omega) (by decide) (v2) ?_ | refine q_38 _ rfl (by decide) rfl (by show _ < 10; omega) (by decide) ?_
            refine q_0 ?_
            refine q_3 rfl ?_
            refine q_0 ?_
            refine q_47 (mj_ev_mono _) [_, _, _, _, _, _] rfl rfl rfl (by decide) rfl rfl rfl ?_
            refine lk i hi I' e' _ (fun I1 e1 => ?_)
            refine q_leI0 (fun _ => ?_) (fun zz => absurd (Int32.not_lt.mp hp2) zz)
            first | refine q_inc rfl rfl rfl ?_ | refine q_9 rfl rfl rfl ?_
            refine q_23 ?_
            refine ih I1 (e'.tr e1) (fun q hq => ?_)
            by_cases eq : q = i
            · rw [eq, kd, decide_eq_false hp2, decide_eq_false hia]
              rfl
            · exact z q (by omega)
    refine q_5 rfl ?_
    refine q_3 rfl ?_
    refine q_5 rfl ?_
    refine q_33 rfl (by decide) (hP _ _ _ rfl) ?_
    refine q_3 rfl ?_
    first | refine q_38E _ rfl (by decide) rfl (by show _ < 10; omega) (by decide) (u1) ?_ | refine q_38 _ rfl (by decide) rfl (by show _ < 10; omega) (by decide) ?_
    refine q_5 rfl ?_
    refine q_33 rfl (by decide) (hP _ _ _ rfl) ?_
    refine q_3 rfl ?_
    first | refine q_38E _ rfl (by decide) rfl (by show _ < 10; omega) (by decide) (u2) ?_ | refine q_38 _ rfl (by decide) rfl (by show _ < 10; omega) (by decide) ?_
    refine q_0 ?_
    refine q_3 rfl ?_
    refine q_0 ?_
    refine q_47 (mj_ev_mono _) [_, _, _, _, _, _] rfl rfl rfl (by decide) rfl rfl rfl ?_
    refine lk a ha I Eqf.rf _ (fun I1 e1 => ?_)
    refine q_gtI0 (fun _ => ?_) (fun zz => absurd hpos zz)
    refine q_0 ?_
    refine q_6 rfl rfl rfl ?_
    exact L29 0 (by omega) I1 e1 (fun q hq => absurd hq (by omega))
  · have hkn : knf w c h a s cl pt wl = false := by
      have hk1 : knd w c h a s cl pt wl a = true := by
        rw [kd, decide_eq_false hpos]
        simp
      unfold knf
      cases e : fnd w.n 0 (knd w c h a s cl pt wl) with
      | none =>
        rw [fnd_none.mp e a (Nat.zero_le _) ha] at hk1
        cases hk1
      | some z => rfl
    refine q_5 rfl ?_
    refine q_3 rfl ?_
    refine q_5 rfl ?_
    refine q_33 rfl (by decide) (hP _ _ _ rfl) ?_
    refine q_3 rfl ?_
    first | refine q_38E _ rfl (by decide) rfl (by show _ < 10; omega) (by decide) (u1) ?_ | refine q_38 _ rfl (by decide) rfl (by show _ < 10; omega) (by decide) ?_
    refine q_5 rfl ?_
    refine q_33 rfl (by decide) (hP _ _ _ rfl) ?_
    refine q_3 rfl ?_
    first | refine q_38E _ rfl (by decide) rfl (by show _ < 10; omega) (by decide) (u2) ?_ | refine q_38 _ rfl (by decide) rfl (by show _ < 10; omega) (by decide) ?_
    refine q_0 ?_
    refine q_3 rfl ?_
    refine q_0 ?_
    refine q_47 (mj_ev_mono _) [_, _, _, _, _, _] rfl rfl rfl (by decide) rfl rfl rfl ?_
    refine lk a ha I Eqf.rf _ (fun I1 e1 => ?_)
    refine q_gtI0 (fun zz => absurd zz hpos) (fun _ => ?_)
    refine q_0 ?_
    refine q_27 (by first | exact Or.inl rfl | exact Or.inr rfl | assumption | (split <;> first | exact Or.inl rfl | exact Or.inr rfl)) ?_
    have k' := k I1 e1
    rw [hkn, if_neg (by decide)] at k'
    exact k'
/-- the loops: what isn't looked at is tried with its first value only -/
theorem c_89b {sT cT pT wT : Nat} (hP : PS t P) (hW : CT w I) (hR : CW w.n 32 33 34 c h m I) (ha : a < w.n) (hs : sT = 30 ∨ (sT = 1 ∧ nlk w 1)) (hc : cT = 10 ∨ (cT = 1 ∧ nlk w 0)) (hp : pT = 4 ∨ (pT = 1 ∧ nlk w 3 ∧ nlk w 5)) (hw : wT = 4 ∨ (wT = 1 ∧ (w.al = none ∨ nlk w 4))) (k : ∀ I', Eqf (frm [13, 15] [(4, 10), (5, 10), (6, 10)]) I I' → Q (.inl (some (.int (mI (knt w c h a))))) (107, I', L, P)) : ∀ s, s ≤ sT + 1 → 1 ≤ s → ∀ I' x8 x9 x10, Eqf (frm [13, 15] [(4, 10), (5, 10), (6, 10)]) I I' → ZN w c h a (KT s 0 0 0) → mj_run (mj_ev (d + 3)) k89 Q (k89 83) [some (.ref 3), some (.int (nI a)), some (.ref 31), some (.int (nI sT)), some (.int (nI cT)), some (.int (nI pT)), some (.int (nI wT)), some (.int (nI s)), x8, x9, x10] [] (107, I', L, P) 0 0 := by
  have hn10 := hR.n10
  have sT30 : sT ≤ 30 := by omega
  have cT10 : cT ≤ 10 := by omega
  have pT4 : pT ≤ 4 := by omega
  have wT4 : wT ≤ 4 := by omega
  refine loop_up ?_ (fun s hs2 ih => ?_)
  · intro _ I' x8 x9 x10 e' z
    have z31 : ZN w c h a (KT 31 0 0 0) := by
      rcases hs with rfl | ⟨rfl, hl⟩
      · exact z
      · exact ZN_s z hl
    refine q_3 rfl ?_
    refine q_3 rfl ?_
    refine q_gtN (by omega) (by omega) (fun hh => ?_) (fun hh => absurd hh (by omega))
    refine q_1 ?_
    refine q_26 ?_
    exact kQ (k I' e') (by unfold knt; rw [show fnd 4800 0 (knp w c h a) = none from fnd_none.mpr (fun j _ hj => z31 j hj)]; rfl)
  · intro hs1 I' x8 x9 x10 e' z
    have L92 : ∀ cl, cl ≤ cT → ∀ I' x9 x10, Eqf (frm [13, 15] [(4, 10), (5, 10), (6, 10)]) I I' → ZN w c h a (KT s cl 0 0) → mj_run (mj_ev (d + 3)) k89 Q (k89 92) [some (.ref 3), some (.int (nI a)), some (.ref 31), some (.int (nI sT)), some (.int (nI cT)), some (.int (nI pT)), some (.int (nI wT)), some (.int (nI s)), some (.int (nI cl)), x9, x10] [] (107, I', L, P) 0 0 := by
      refine loop_up ?_ (fun cl hcl ih2 => ?_)
      · intro I' x9 x10 e' z
        have z10 : ZN w c h a (KT s 10 0 0) := by
          rcases hc with rfl | ⟨rfl, hl⟩
          · exact z
          · exact ZN_c z hl hs1
        refine q_3 rfl ?_
        refine q_3 rfl ?_
        refine q_geN (by omega) (by omega) (fun hh => ?_) (fun hh => absurd hh (by omega))
        first | refine q_inc rfl rfl rfl ?_ | refine q_9 rfl rfl rfl ?_
        refine q_23 ?_
        exact ih (by omega) I' _ _ _ e' (by rw [show KT (s + 1) 0 0 0 = KT s 10 0 0 by unfold KT; omega]; exact z10)
      · intro I' x9 x10 e' z
        have L102 : ∀ pt, pt ≤ pT → ∀ I' x10, Eqf (frm [13, 15] [(4, 10), (5, 10), (6, 10)]) I I' → ZN w c h a (KT s cl pt 0) → mj_run (mj_ev (d + 3)) k89 Q (k89 102) [some (.ref 3), some (.int (nI a)), some (.ref 31), some (.int (nI sT)), some (.int (nI cT)), some (.int (nI pT)), some (.int (nI wT)), some (.int (nI s)), some (.int (nI cl)), some (.int (nI pt)), x10] [] (107, I', L, P) 0 0 := by
          refine loop_up ?_ (fun pt hpt ih3 => ?_)
          · intro I' x10 e' z
            have z4 : ZN w c h a (KT s cl 4 0) := by
              rcases hp with rfl | ⟨rfl, hl, hl2⟩
              · exact z
              · exact ZN_p z hl hl2 hs1 (by omega)
            refine q_3 rfl ?_
            refine q_3 rfl ?_
            refine q_geN (by omega) (by omega) (fun hh => ?_) (fun hh => absurd hh (by omega))
            first | refine q_inc rfl rfl rfl ?_ | refine q_9 rfl rfl rfl ?_
            refine q_23 ?_
            exact ih2 I' _ _ e' (by rw [show KT s (cl + 1) 0 0 = KT s cl 4 0 by unfold KT; omega]; exact z4)
          · intro I' x10 e' z
            have L112 : ∀ wl, wl ≤ wT → ∀ I', Eqf (frm [13, 15] [(4, 10), (5, 10), (6, 10)]) I I' → ZN w c h a (KT s cl pt wl) → mj_run (mj_ev (d + 3)) k89 Q (k89 112) [some (.ref 3), some (.int (nI a)), some (.ref 31), some (.int (nI sT)), some (.int (nI cT)), some (.int (nI pT)), some (.int (nI wT)), some (.int (nI s)), some (.int (nI cl)), some (.int (nI pt)), some (.int (nI wl))] [] (107, I', L, P) 0 0 := by
              refine loop_up ?_ (fun wl hwl ih4 => ?_)
              · intro I' e' z
                have z4 : ZN w c h a (KT s cl pt 4) := by
                  rcases hw with rfl | ⟨rfl, hl⟩
                  · exact z
                  · exact ZN_w z hl hs1 (by omega) (by omega)
                refine q_3 rfl ?_
                refine q_3 rfl ?_
                refine q_geN (by omega) (by omega) (fun hh => ?_) (fun hh => absurd hh (by omega))
                first | refine q_inc rfl rfl rfl ?_ | refine q_9 rfl rfl rfl ?_
                refine q_23 ?_
                exact ih3 I' _ e' (by rw [show KT s cl (pt + 1) 0 = KT s cl pt 4 by unfold KT; omega]; exact z4)
              · intro I' e' z
                have kp : knp w c h a (KT s cl pt wl) = knf w c h a s cl pt wl := knp_K hs1 (by omega) (by omega) (by omega)
                have E : Eqf (frm [13, 15] [(4, 10), (5, 10), (6, 10)]) I (mj_upI (mj_upI (mj_upI I' 6 10 (nI s)) 4 10 (nI pt)) 5 10 (nI wl)) := ((e'.up rfl).up rfl).up rfl
                have hW1 : CT w (mj_upI (mj_upI (mj_upI I' 6 10 (nI s)) 4 10 (nI pt)) 5 10 (nI wl)) := hW.fr E ⟨rfl, rfl, rfl, rfl, rfl, rfl⟩ (fun _ => rfl) (fun j hj => by
                  have e : (j == 10) = false := by simp; omega
                  unfold frm
                  simp only [List.any_cons, List.any_nil, e, Bool.and_false, Bool.or_false]
                  exact ⟨rfl, rfl, rfl, rfl⟩)
                have hR1 : CW w.n 32 33 34 c h m (mj_upI (mj_upI (mj_upI I' 6 10 (nI s)) 4 10 (nI pt)) 5 10 (nI wl)) := hR.fr (funext fun j => E 32 j rfl) (funext fun j => E 33 j rfl) (funext fun j => E 34 j rfl)
                cases hk : knf w c h a s cl pt wl with
                | false =>
                  refine q_3 rfl ?_
                  refine q_3 rfl ?_
                  refine q_geN (by omega) (by omega) (fun hh => absurd hh (by omega)) (fun hh => ?_)
                  refine q_5 rfl ?_
                  refine q_33 rfl (by decide) (hP _ _ _ rfl) ?_
                  refine q_0 ?_
                  refine q_3 rfl ?_
                  refine q_42 _ rfl (by decide) rfl (by show _ < 11; omega) (by decide) ?_
                  refine q_5 rfl ?_
                  refine q_33 rfl (by decide) (hP _ _ _ rfl) ?_
                  refine q_0 ?_
                  refine q_3 rfl ?_
                  refine q_42 _ rfl (by decide) rfl (by show _ < 11; omega) (by decide) ?_
                  refine q_5 rfl ?_
                  refine q_33 rfl (by decide) (hP _ _ _ rfl) ?_
                  refine q_0 ?_
                  refine q_3 rfl ?_
                  refine q_42 _ rfl (by decide) rfl (by show _ < 11; omega) (by decide) ?_
                  refine q_5 rfl ?_
                  refine q_3 rfl ?_
                  refine q_3 rfl ?_
                  refine q_5 rfl ?_
                  refine q_47 (mj_ev_mono _) [_, _, _] rfl rfl rfl (by decide) rfl rfl rfl ?_
                  refine c_90 (cl := cl) hP hW1 hR1 ha (show CKN s pt wl _ from ⟨rfl, rfl, rfl⟩) (by omega) (fun I2 e2 => ?_)
                  rw [hk, if_neg (by decide)]
                  first | refine q_eqN0 (by omega) (fun hh => ?_) (fun hh => absurd hh (by omega)) | refine q_eqI0 (fun hh => ?_) (fun hh => absurd (by omega) hh)
                  first | refine q_inc rfl rfl rfl ?_ | refine q_9 rfl rfl rfl ?_
                  refine q_23 ?_
                  refine ih4 I2 (E.tr (e2.to rfl rfl)) (fun x hx => ?_)
                  by_cases ex : x = KT s cl pt wl
                  · rw [ex, kp]
                    exact hk
                  · exact z x (by unfold KT at hx ex ⊢; omega)
                | true =>
                  have hkr : knr (KT s cl pt wl) = 10000 * s + 100 * cl + 10 * pt + wl := by
                    unfold knr KT
                    rw [show (160 * (s - 1) + 16 * cl + 4 * pt + wl) / 160 + 1 = s by omega, show (160 * (s - 1) + 16 * cl + 4 * pt + wl) % 160 / 16 = cl by omega, show (160 * (s - 1) + 16 * cl + 4 * pt + wl) % 160 / 4 % 4 = pt by omega, show (160 * (s - 1) + 16 * cl + 4 * pt + wl) % 160 % 4 = wl by omega]
                  refine q_3 rfl ?_
                  refine q_3 rfl ?_
                  refine q_geN (by omega) (by omega) (fun hh => absurd hh (by omega)) (fun hh => ?_)
                  refine q_5 rfl ?_
                  refine q_33 rfl (by decide) (hP _ _ _ rfl) ?_
                  refine q_0 ?_
                  refine q_3 rfl ?_
                  refine q_42 _ rfl (by decide) rfl (by show _ < 11; omega) (by decide) ?_
                  refine q_5 rfl ?_
                  refine q_33 rfl (by decide) (hP _ _ _ rfl) ?_
                  refine q_0 ?_
                  refine q_3 rfl ?_
                  refine q_42 _ rfl (by decide) rfl (by show _ < 11; omega) (by decide) ?_
                  refine q_5 rfl ?_
                  refine q_33 rfl (by decide) (hP _ _ _ rfl) ?_
                  refine q_0 ?_
                  refine q_3 rfl ?_
                  refine q_42 _ rfl (by decide) rfl (by show _ < 11; omega) (by decide) ?_
                  refine q_5 rfl ?_
                  refine q_3 rfl ?_
                  refine q_3 rfl ?_
                  refine q_5 rfl ?_
                  refine q_47 (mj_ev_mono _) [_, _, _] rfl rfl rfl (by decide) rfl rfl rfl ?_
                  refine c_90 (cl := cl) hP hW1 hR1 ha (show CKN s pt wl _ from ⟨rfl, rfl, rfl⟩) (by omega) (fun I2 e2 => ?_)
                  rw [hk, if_pos rfl]
                  first | refine q_eqN0 (by omega) (fun hh => absurd hh (by omega)) (fun hh => ?_) | refine q_eqI0 (fun hh => absurd hh (by omega)) (fun hh => ?_)
                  refine q_0 ?_
                  refine q_3 rfl ?_
                  first | refine q_mul ?_ | refine q_11 rfl ?_
                  refine q_0 ?_
                  refine q_3 rfl ?_
                  first | refine q_mul ?_ | refine q_11 rfl ?_
                  first | refine q_add ?_ | refine q_11 rfl ?_
                  refine q_0 ?_
                  refine q_3 rfl ?_
                  first | refine q_mul ?_ | refine q_11 rfl ?_
                  first | refine q_add ?_ | refine q_11 rfl ?_
                  refine q_3 rfl ?_
                  first | refine q_add ?_ | refine q_11 rfl ?_
                  refine q_26 ?_
                  exact kQ (k I2 (E.tr (e2.to rfl rfl))) (by unfold knt; rw [fnd_is (Nat.zero_le _) (show KT s cl pt wl < 4800 by unfold KT; omega) (by rw [kp]; exact hk) (fun j _ hj => z j hj)]; show _ = nI (knr (KT s cl pt wl)); rw [hkr])
            refine q_3 rfl ?_
            refine q_3 rfl ?_
            refine q_geN (by omega) (by omega) (fun hh => absurd hh (by omega)) (fun hh => ?_)
            refine q_0 ?_
            refine q_6 rfl rfl rfl ?_
            exact L112 0 (by omega) I' e' z
        refine q_3 rfl ?_
        refine q_3 rfl ?_
        refine q_geN (by omega) (by omega) (fun hh => absurd hh (by omega)) (fun hh => ?_)
        refine q_0 ?_
        refine q_6 rfl rfl rfl ?_
        exact L102 0 (by omega) I' _ e' z
    refine q_3 rfl ?_
    refine q_3 rfl ?_
    refine q_gtN (by omega) (by omega) (fun hh => absurd hh (by omega)) (fun hh => ?_)
    refine q_0 ?_
    refine q_6 rfl rfl rfl ?_
    exact L92 0 (by omega) I' _ _ e' z
theorem c_89 (hP : PS t P) (hW : CT w I) (hR : CW w.n 32 33 34 c h m I) (ha : a < w.n) (k : ∀ I', Eqf (frm [13, 15] [(4, 10), (5, 10), (6, 10)]) I I' → Q (.inl (some (.int (mI (knt w c h a))))) (107, I', L, P)) : mj_ev (d + 4) 89 [.ref 3, .int (nI a), .ref 31] (107, I, L, P) Q := by
  refine ⟨rfl, ?_⟩
  have nn : ∀ {z B : Nat}, (w.al = none → (z = 0 ↔ -(nI 32769) &&& nI B = 0)) → ¬ (-(nI 32769) &&& nI B = 0) → z = 0 → w.al ≠ none := fun q1 q2 hz q3 => q2 ((q1 q3).mp hz)
  have S78 : ∀ sT cT pT wT, (sT = 30 ∨ (sT = 1 ∧ nlk w 1)) → (cT = 10 ∨ (cT = 1 ∧ nlk w 0)) → (pT = 4 ∨ (pT = 1 ∧ nlk w 3 ∧ nlk w 5)) → (wT = 4 ∨ (wT = 1 ∧ (w.al = none ∨ nlk w 4))) → mj_run (mj_ev (d + 3)) k89 Q (k89 78) [some (.ref 3), some (.int (nI a)), some (.ref 31), some (.int (nI sT)), some (.int (nI cT)), some (.int (nI pT)), none, none, none, none, none] [.int (nI wT)] (107, I, L, P) 0 0 := by
    intro sT cT pT wT h1 h2 h3 h4
    refine q_6 rfl rfl rfl ?_
    refine q_0 ?_
    refine q_6 rfl rfl rfl ?_
    exact c_89b hP hW hR ha h1 h2 h3 h4 k 1 (by omega) (by omega) I _ _ _ Eqf.rf (fun x hx => absurd hx (by unfold KT; omega))
  have S59 : ∀ sT cT pT, (sT = 30 ∨ (sT = 1 ∧ nlk w 1)) → (cT = 10 ∨ (cT = 1 ∧ nlk w 0)) → (pT = 4 ∨ (pT = 1 ∧ nlk w 3 ∧ nlk w 5)) → mj_run (mj_ev (d + 3)) k89 Q (k89 59) [some (.ref 3), some (.int (nI a)), some (.ref 31), some (.int (nI sT)), some (.int (nI cT)), none, none, none, none, none, none] [.int (nI pT)] (107, I, L, P) 0 0 := by
    intro sT cT pT h1 h2 h3
    refine q_6 rfl rfl rfl ?_
    refine q_5 rfl ?_
    refine q_33 rfl (by decide) (hP _ _ _ rfl) ?_
    refine q_0 ?_
    refine q_47 (mj_ev_mono _) [_] rfl rfl rfl (by decide) rfl rfl rfl ?_
    refine c_60 (bs := [4]) hP hW (by decide) (fun v hv => by simp only [List.mem_cons, List.not_mem_nil, or_false] at hv; subst hv; decide) (fun z y f g => ?_)
    rcases y with rfl | rfl
    · refine q_eqN0 (by omega) (fun _ => ?_) (fun q => absurd rfl q)
      refine q_0 ?_
      refine S78 sT cT pT 1 h1 h2 h3 (Or.inr ⟨rfl, ?_⟩)
      by_cases hal : w.al = none
      · exact Or.inl hal
      · exact Or.inr (f rfl hal 4 (by simp))
    · refine q_eqN0 (by omega) (fun q => absurd q (by omega)) (fun _ => ?_)
      refine q_0 ?_
      refine q_23 ?_
      exact S78 sT cT pT 4 h1 h2 h3 (Or.inl rfl)
    skip
  have S39 : ∀ sT cT, (sT = 30 ∨ (sT = 1 ∧ nlk w 1)) → (cT = 10 ∨ (cT = 1 ∧ nlk w 0)) → mj_run (mj_ev (d + 3)) k89 Q (k89 39) [some (.ref 3), some (.int (nI a)), some (.ref 31), some (.int (nI sT)), none, none, none, none, none, none, none] [.int (nI cT)] (107, I, L, P) 0 0 := by
    intro sT cT h1 h2
    refine q_6 rfl rfl rfl ?_
    refine q_5 rfl ?_
    refine q_33 rfl (by decide) (hP _ _ _ rfl) ?_
    refine q_0 ?_
    refine q_47 (mj_ev_mono _) [_] rfl rfl rfl (by decide) rfl rfl rfl ?_
    refine c_60 (bs := [3, 5]) hP hW (by decide) (fun v hv => by simp only [List.mem_cons, List.not_mem_nil, or_false] at hv; rcases hv with rfl | rfl <;> decide) (fun z y f g => ?_)
    rcases y with rfl | rfl
    · refine q_eqN0 (by omega) (fun _ => ?_) (fun q => absurd rfl q)
      refine q_0 ?_
      exact S59 sT cT 1 h1 h2 (Or.inr ⟨rfl, f rfl (nn g (by decide) rfl) 3 (by simp), f rfl (nn g (by decide) rfl) 5 (by simp)⟩)
    · refine q_eqN0 (by omega) (fun q => absurd q (by omega)) (fun _ => ?_)
      refine q_0 ?_
      refine q_23 ?_
      exact S59 sT cT 4 h1 h2 (Or.inl rfl)
    skip
  have S19 : ∀ sT, (sT = 30 ∨ (sT = 1 ∧ nlk w 1)) → mj_run (mj_ev (d + 3)) k89 Q (k89 19) [some (.ref 3), some (.int (nI a)), some (.ref 31), none, none, none, none, none, none, none, none] [.int (nI sT)] (107, I, L, P) 0 0 := by
    intro sT h1
    refine q_6 rfl rfl rfl ?_
    refine q_5 rfl ?_
    refine q_33 rfl (by decide) (hP _ _ _ rfl) ?_
    refine q_0 ?_
    refine q_47 (mj_ev_mono _) [_] rfl rfl rfl (by decide) rfl rfl rfl ?_
    refine c_60 (bs := [0]) hP hW (by decide) (fun v hv => by simp only [List.mem_cons, List.not_mem_nil, or_false] at hv; subst hv; decide) (fun z y f g => ?_)
    rcases y with rfl | rfl
    · refine q_eqN0 (by omega) (fun _ => ?_) (fun q => absurd rfl q)
      refine q_0 ?_
      exact S39 sT 1 h1 (Or.inr ⟨rfl, f rfl (nn g (by decide) rfl) 0 (by simp)⟩)
    · refine q_eqN0 (by omega) (fun q => absurd q (by omega)) (fun _ => ?_)
      refine q_0 ?_
      refine q_23 ?_
      exact S39 sT 10 h1 (Or.inl rfl)
    skip
  show mj_run (mj_ev (d + 3)) k89 Q (k89 0) [some (.ref 3), some (.int (nI a)), some (.ref 31), none, none, none, none, none, none, none, none] [] (107, I, L, P) 0 0
  refine q_5 rfl ?_
  refine q_33 rfl (by decide) (hP _ _ _ rfl) ?_
  refine q_0 ?_
  refine q_47 (mj_ev_mono _) [_] rfl rfl rfl (by decide) rfl rfl rfl ?_
  refine c_60 (bs := [1]) hP hW (by decide) (fun v hv => by simp only [List.mem_cons, List.not_mem_nil, or_false] at hv; subst hv; decide) (fun z y f g => ?_)
  rcases y with rfl | rfl
  · refine q_eqN0 (by omega) (fun _ => ?_) (fun q => absurd rfl q)
    refine q_0 ?_
    exact S19 1 (Or.inr ⟨rfl, f rfl (nn g (by decide) rfl) 1 (by simp)⟩)
  · refine q_eqN0 (by omega) (fun q => absurd q (by omega)) (fun _ => ?_)
    refine q_0 ?_
    refine q_23 ?_
    exact S19 30 (Or.inl rfl)
  skip
/-- the last place of what never changes is nobody's -/
theorem CB.f10 {I' : mj_I} (hB : CB A I) (e : Eqf (frm [13, 15] [(4, 10), (5, 10), (6, 10)]) I I') : CB A I' := by
  obtain ⟨h1, h2, h3, h4, h5, h6, h7, h8, h9⟩ := hB
  have hn := h1.n10
  have e10 : ∀ j, j < A.w.n → (j == 10) = false := fun j hj => by simp; omega
  refine ⟨h1.fr e ⟨rfl, rfl, rfl, rfl, rfl, rfl⟩ (fun _ => rfl) (fun j hj => ?_), h2.fr (fun j _ => e 30 j rfl) (e 31 0 rfl) (funext fun j => e 32 j rfl) (funext fun j => e 33 j rfl) (funext fun j => e 34 j rfl) (funext fun j => e 35 j rfl) (funext fun j => e 36 j rfl) (funext fun j => e 37 j rfl) (funext fun j => e 38 j rfl), ?_, (e 0 1 rfl).trans h4, h5, fun j hj => ⟨(e 1 j rfl).trans (h6 j hj).1, (h6 j hj).2⟩, (e 0 2 rfl).trans h7, h8, fun j hj => (e 2 j rfl).trans (h9 j hj)⟩
  · unfold frm
    simp only [List.any_cons, List.any_nil, e10 j hj, Bool.and_false, Bool.or_false]
    exact ⟨rfl, rfl, rfl, rfl⟩
  · cases hk : A.kp with
    | none =>
      rw [hk] at h3
      exact (e 0 9 rfl).trans h3
    | some i =>
      rw [hk] at h3
      exact ⟨(e 0 9 rfl).trans h3.1, h3.2.fr (fun j _ => e 39 j rfl) (e 40 0 rfl) (funext fun j => e 41 j rfl) (funext fun j => e 42 j rfl) (funext fun j => e 43 j rfl) (funext fun j => e 44 j rfl) (funext fun j => e 45 j rfl) (funext fun j => e 46 j rfl) (funext fun j => e 47 j rfl)⟩
theorem c_131 (hP : PS t P) (hS : CS A I) (ha : a < A.w.n) (k : kC Q I L P A (.inl (some (.int (mI (knt A.w A.c A.h a)))))) : mj_ev (d + 12) 131 [.ref 0, .int (nI a)] (107, I, L, P) Q := by
  refine ⟨rfl, ?_⟩
  show mj_run (mj_ev (d + 11)) k131 Q (k131 0) [some (.ref 0), some (.int (nI a))] [] (107, I, L, P) 1 6
  refine q_5 rfl ?_
  refine q_3 rfl ?_
  refine q_47 (mj_ev_mono _) [_] rfl rfl rfl (by decide) rfl rfl rfl ?_
  refine c_149T hP hS.cb.hn hS.cb.n10 ha ?_
  refine q_5 rfl ?_
  refine q_33 rfl (by decide) (hP _ _ _ rfl) ?_
  refine q_3 rfl ?_
  refine q_5 rfl ?_
  refine q_33 rfl (by decide) (hP _ _ _ rfl) ?_
  refine q_47 (mj_ev_mono _) [_, _] rfl rfl rfl (by decide) rfl rfl rfl ?_
  refine c_89 hP hS.cb.ct hS.cb.cw ha (fun I1 e1 => ?_)
  refine q_26 ?_
  obtain ⟨hB, hO, hK, hU, hZ, hD⟩ := hS
  exact k.fm e1 ⟨hB.f10 e1, hO.fr (e1 48 4 rfl) (funext fun j => e1 49 j rfl), hK.fr (e1 51 4 rfl) (funext fun j => e1 52 j rfl), hU.fr (e1 55 1 rfl) (funext fun j => e1 56 j rfl) (funext fun j => e1 57 j rfl) (fun k h1 h8 hk => ⟨k, h1, h8, (e1 48 4 rfl).trans hk⟩), hZ.fr (e1 60 1 rfl) (e1 60 2 rfl) (funext fun j => e1 62 j rfl) (funext fun j => e1 63 j rfl), hD.fr (fun j => e1 65 j rfl) (funext fun j => e1 66 j rfl)⟩ rfl rfl
end C
