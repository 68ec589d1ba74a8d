/-! the model reads an EXPR: operands, joins -/
/-- the head of its loop -/
def HR (D : Nat) (Q : mj_Q) (lo hi : Nat) (σ : mj_S) : Prop := ∀ x4, mj_run (mj_ev D) k192 Q (k192 39) [some (.ref 73), some (.int (nI lo)), some (.int (nI hi)), some (.int (nI 1)), x4] [] σ 0 0
def QO (D : Nat) (Q : mj_Q) (lo hi : Nat) : mj_Q := fun r σ => r = .inl none ∧ HR D Q lo hi σ
def HDm (b : Nat → Nat) (n D : Nat) (Q : mj_Q) (P : mj_P) (lo hi : Nat) (I : mj_I) (L : mj_L) (j : Nat) (W : List Nat) (dp : Nat) (ts : Nat → Bool) (O : List Nat) : Prop := XB b n j W O → ∀ I' L', Eqf (frm [86, 87, 88] XF4) I I' → EqL (frm [] [(73, 21)]) L L' → XS0 b n j W dp ts O I' L' → HR (D + 5) Q lo hi (107, I', L', P)
def OPm (b : Nat → Nat) (n D : Nat) (Q : mj_Q) (P : mj_P) (lo hi : Nat) (I : mj_I) (L : mj_L) (mn : Bool) (j : Nat) (W : List Nat) (dp : Nat) (ts : Nat → Bool) (O : List Nat) : Prop := XB b n j W O → ∀ I' L', Eqf (frm [86, 87, 88] XF4) I I' → EqL (frm [] [(73, 21)]) L L' → XS0 b n j W dp ts O I' L' → ∀ x1 x4, mj_run (mj_ev (D + 4)) k189 (QO (D + 5) Q lo hi) (k189 4) [some (.ref 73), some (.int x1), some (.int (nI (if mn then 1 else 0))), some (.int (nI 1)), x4] [] (107, I', L', P) 0 0
def ONm (b : Nat → Nat) (n D : Nat) (Q : mj_Q) (P : mj_P) (lo hi : Nat) (I : mj_I) (L : mj_L) (j : Nat) (W : List Nat) (dp : Nat) (ts : Nat → Bool) (O : List Nat) : Prop := XB b n j W O → ∀ I' L', Eqf (frm [86, 87, 88] XF4) I I' → EqL (frm [] [(73, 21)]) L L' → XS0 b n j W dp ts O I' L' → ∀ x1 x2 x3 x4, mj_run (mj_ev (D + 4)) k189 (QO (D + 5) Q lo hi) (k189 75) [some (.ref 73), some (.int x1), some (.int x2), some (.int x3), some (.int x4)] [] (107, I', L', P) 0 0
def FLm (b : Nat → Nat) (n D : Nat) (Q : mj_Q) (P : mj_P) (lo hi : Nat) (I : mj_I) (L : mj_L) (c jf : Nat) : Prop := ∀ I' L', Eqf (frm [86, 87, 88] XF4) I I' → EqL (frm [] [(73, 21)]) L L' → XFl b n c jf I' → ∀ x3 x4, mj_run (mj_ev (D + 5)) k192 Q (k192 360) [some (.ref 73), some (.int (nI lo)), some (.int (nI hi)), x3, x4] [] (107, I', L', P) 0 0
section M
variable {I : mj_I} {L : mj_L} {P : mj_P} {Q : mj_Q} {d n r t j : Nat} {b : Nat → Nat} {W O : List Nat} {dp : Nat} {ts : Nat → Bool} {lo hi : Nat}
/-- the part's end of an operand -/
theorem op_120 {c jf : Nat} {I' : mj_I} {L' : mj_L} (hF : XFl b n c jf I') (hH : HR (d + 5) Q lo hi (107, I', L', P)) : ∀ x1 x2 x3 x4, mj_run (mj_ev (d + 4)) k189 (QO (d + 5) Q lo hi) (k189 120) [some (.ref 73), x1, x2, x3, x4] [] (107, I', L', P) 0 0 := by
  intro x1 x2 x3 x4
  obtain ⟨c0, c9, g11, -⟩ := hF
  refine q_5 rfl ?_
  refine q_47 (mj_ev_mono _) [] rfl rfl rfl (by decide) rfl rfl rfl ?_
  refine s_187B (d := d + 2) g11 c0 c9 ?_
  refine q_25 ?_
  exact ⟨rfl, hH⟩
/-- an operand that is a part -/
theorem op_part {I' : mj_I} {L' : mj_L} (hX : XS0 b n j W dp ts O I' L') (h40 : tK b n j ≠ 40) (hp : mj_ev (d + 4) 187 [.ref 73] (107, I', L', P) (QO (d + 5) Q lo hi)) : ∀ x1 x2 x3 x4, mj_run (mj_ev (d + 4)) k189 (QO (d + 5) Q lo hi) (k189 75) [some (.ref 73), some (.int x1), some (.int x2), some (.int x3), some (.int x4)] [] (107, I', L', P) 0 0 := by
  intro x1 x2 x3 x4
  refine q_5 rfl ?_
  refine q_47 (mj_ev_mono _) [] rfl rfl rfl (by decide) rfl rfl rfl ?_
  refine s_177G hX.g ?_
  first | refine q_eqN0 (by omega) (fun hh => absurd hh (by omega)) (fun hh => ?_) | refine q_eqI0 (fun hh => absurd hh (by omega)) (fun hh => ?_)
  refine q_5 rfl ?_
  refine q_0 ?_
  refine q_47 (mj_ev_mono _) [_] rfl rfl rfl (by decide) rfl rfl rfl ?_
  refine s_178 hX.tm (by omega) (by omega) (fun i hi => (hX.mb.1 i hi).2) ?_
  rw [if_neg h40]
  first | refine q_eqN0 (by omega) (fun hh => ?_) (fun hh => absurd hh (by omega)) | refine q_eqI0 (fun hh => ?_) (fun hh => absurd (by omega) hh)
  refine q_0 ?_
  refine q_6 rfl rfl rfl ?_
  refine q_3 rfl ?_
  first | refine q_eqN0 (by omega) (fun hh => ?_) (fun hh => absurd hh (by omega)) | refine q_eqI0 (fun hh => ?_) (fun hh => absurd (by omega) hh)
  refine q_23 ?_
  refine q_3 rfl ?_
  first | refine q_eqN0 (by omega) (fun hh => ?_) (fun hh => absurd hh (by omega)) | refine q_eqI0 (fun hh => ?_) (fun hh => absurd (by omega) hh)
  refine q_5 rfl ?_
  refine q_47 (mj_ev_mono _) [] rfl rfl rfl (by decide) rfl rfl rfl ?_
  refine mj_ev_mono _ _ _ _ (QO (d + 5) Q lo hi) _ (fun r s h => ?_) hp
  obtain ⟨rfl, h2⟩ := h
  refine q_25 ?_
  exact ⟨rfl, h2⟩
  skip
/-- a call of the operand -/
theorem op_call {mn : Bool} {Q2 : mj_Q} {I' : mj_I} {L' : mj_L} (h : ∀ x1 x4, mj_run (mj_ev (d + 4)) k189 (QO (d + 5) Q lo hi) (k189 4) [some (.ref 73), some (.int x1), some (.int (nI (if mn then 1 else 0))), some (.int (nI 1)), x4] [] (107, I', L', P) 0 0) (hk : ∀ σ, HR (d + 5) Q lo hi σ → Q2 (.inl none) σ) : mj_ev (d + 5) 189 [.ref 73, .int (nI (if mn then 1 else 0))] (107, I', L', P) Q2 := by
  refine mj_ev_mono _ _ _ _ (QO (d + 5) Q lo hi) _ (fun r s g => by obtain ⟨rfl, g2⟩ := g; exact hk s g2) ?_
  refine ⟨rfl, ?_⟩
  show mj_run (mj_ev (d + 4)) k189 (QO (d + 5) Q lo hi) (k189 0) [some (.ref 73), some (.int (nI (if mn then 1 else 0))), none, none, none] [] (107, I', L', P) 0 0
  refine q_3 rfl ?_
  refine q_6 rfl rfl rfl ?_
  refine q_0 ?_
  refine q_6 rfl rfl rfl ?_
  exact h _ _
/-- nots -/
theorem op_nots (hP : PS t P) (na : Nat) (hna : na ≤ 6) (h9 : ∀ i, i < na → tK b n (j + i) = 9) (hend : ∀ I' L', Eqf (frm [86, 87, 88] XF4) I I' → EqL (frm [] [(73, 21)]) L L' → XS0 b n (j + na) (List.replicate na 3 ++ W) dp ts O I' L' → XB b n (j + na) (List.replicate na 3 ++ W) O → ∀ x1, mj_run (mj_ev (d + 4)) k189 (QO (d + 5) Q lo hi) (k189 18) [some (.ref 73), some (.int x1), some (.int (nI 1)), some (.int (nI 1)), some (.int (nI na))] [] (107, I', L', P) 0 0) : ∀ c, c ≤ na → ∀ I' L', Eqf (frm [86, 87, 88] XF4) I I' → EqL (frm [] [(73, 21)]) L L' → XS0 b n (j + c) (List.replicate c 3 ++ W) dp ts O I' L' → XB b n (j + c) (List.replicate c 3 ++ W) O → ∀ x1, mj_run (mj_ev (d + 4)) k189 (QO (d + 5) Q lo hi) (k189 18) [some (.ref 73), some (.int x1), some (.int (nI 1)), some (.int (nI 1)), some (.int (nI c))] [] (107, I', L', P) 0 0 := by
  refine loop_up hend (fun c hc ih => ?_)
  intro I' L' E EL hX hb x1
  have k9 := h9 c hc
  have tp := hb.top hX.n7
  refine q_5 rfl ?_
  refine q_47 (mj_ev_mono _) [] rfl rfl rfl (by decide) rfl rfl rfl ?_
  refine s_177G hX.g ?_
  first | refine q_eqN0 (by omega) (fun hh => absurd hh (by omega)) (fun hh => ?_) | refine q_eqI0 (fun hh => absurd hh (by omega)) (fun hh => ?_)
  refine q_3 rfl ?_
  first | refine q_eqN0 (by omega) (fun hh => absurd hh (by omega)) (fun hh => ?_) | refine q_eqI0 (fun hh => absurd hh (by omega)) (fun hh => ?_)
  refine q_5 rfl ?_
  refine q_47 (mj_ev_mono _) [] rfl rfl rfl (by decide) rfl rfl rfl ?_
  refine s_175 hP hX.tm hX.n7 ?_
  rw [k9, show mI (mk 9) = nI 18 from rfl]
  refine q_0 ?_
  refine q_neN (by omega) (by omega) (fun hh => absurd hh (by omega)) (fun hh => ?_)
  refine q_3 rfl ?_
  refine q_0 ?_
  refine q_neN (by omega) (by omega) (fun hh => ?_) (fun hh => absurd hh (by omega))
  first | refine q_inc rfl rfl rfl ?_ | refine q_9 rfl rfl rfl ?_
  refine q_5 rfl ?_
  refine q_47 (mj_ev_mono _) [] rfl rfl rfl (by decide) rfl rfl rfl ?_
  refine s_177G hX.g ?_
  first | refine q_neN0 (by omega) (fun hh => ?_) (fun hh => absurd hh (by omega)) | refine q_neI0 (fun hh => ?_) (fun hh => absurd (by omega) hh)
  refine q_5 rfl ?_
  refine q_0 ?_
  refine q_47 (mj_ev_mono _) [_] rfl rfl rfl (by decide) rfl rfl rfl ?_
  refine s_186 hP hX.2.2.2.1.1 hX.2.2.2.1.2.1 (by omega) (fun I1 e1 f1 f2 => ?_)
  have hX1 := hX.push (v := 3) ⟨by omega, by omega⟩ e1 f1 f2
  refine q_5 rfl ?_
  refine q_47 (mj_ev_mono _) [] rfl rfl rfl (by decide) rfl rfl rfl ?_
  refine s_172 (j := j + c + 1) hP hX1.mb hX1.tm.1 (fun I2 L2 e2 eL hT => ?_)
  refine q_23 ?_
  exact ih I2 L2 ((E.tr (e1.to rfl rfl)).tr (e2.to rfl rfl)) (EL.tr eL) (hX1.go e2 hT) (hb.go (by omega) (by show O.length + (3 :: (List.replicate c 3 ++ W)).length ≤ _; rw [List.length_cons]; omega) (by show (3 :: (List.replicate c 3 ++ W)).length ≤ _; rw [List.length_cons]; omega)) _
theorem drops_len {l : Nat} (W : List Nat) : (dpr l W).length ≤ W.length := by have := dp_len (l := l) W; omega
theorem wst_app {f : Nat → Int32} : ∀ {p W : List Nat}, wst f (p ++ W) → wst f W
  | [], _, h => h
  | _ :: p, _, h => wst_app (p := p) h.2
/-- all that wait without an opening one go -/
theorem dp_all {W' : List Nat} : ∀ {p : List Nat}, (∀ a, a ∈ p → 3 ≤ a ∧ a ≤ 11) → dpd 0 (p ++ 14 :: W') = p ∧ dpr 0 (p ++ 14 :: W') = 14 :: W'
  | [], _ => ⟨if_neg (fun q => by omega), if_neg (fun q => by omega)⟩
  | a :: p, h => by
    obtain ⟨h1, h2⟩ := h a List.mem_cons_self
    obtain ⟨i1, i2⟩ := dp_all (W' := W') (p := p) (fun x hx => h x (List.mem_cons_of_mem _ hx))
    have c1 : a < 14 ∧ 0 ≤ stg a := ⟨by omega, by omega⟩
    exact ⟨(if_pos c1).trans (congrArg (a :: ·) i1), (if_pos c1).trans i2⟩
theorem s_190 {W' p : List Nat} (hP : PS t P) (hX : XS0 b n j (p ++ 14 :: W') dp ts O I L) (hl : (p ++ 14 :: W').length ≤ 900) (hp : ∀ a, a ∈ p → 3 ≤ a ∧ a ≤ 11) (k : Q (.inl (some (.int (nI 1)))) (107, I, L, P)) : mj_ev (d + 2) 190 [.ref 73] (107, I, L, P) Q := by
  refine ⟨rfl, ?_⟩
  obtain ⟨a1, a2, a3, ⟨a4, a5, a6⟩, a7, a11, a12⟩ := hX
  have L7 : ∀ (q : List Nat), (∀ a, a ∈ q → 3 ≤ a ∧ a ≤ 11) → wst (I 87) (q ++ 14 :: W') → (q ++ 14 :: W').length ≤ 900 → mj_run (mj_ev (d + 1)) k190 Q (k190 7) [some (.ref 73), some (.int (nI ((q ++ 14 :: W').length - 1)))] [] (107, I, L, P) 0 0 := by
    intro q
    induction q with
    | nil =>
      intro _ hw hl
      have v1 : I 87 ((14 :: W').length - 1) = nI 14 := hw.1
      have hl' : (14 :: W').length ≤ 900 := hl
      show mj_run (mj_ev (d + 1)) k190 Q (k190 7) [some (.ref 73), some (.int (nI ((14 :: W').length - 1)))] [] (107, I, L, P) 0 0
      refine q_3 rfl ?_
      first | refine q_ltN0 (by omega) ?_ | refine q_ltI0 (fun hh => absurd hh (by omega)) (fun hh => ?_)
      refine q_5 rfl ?_
      refine q_33 rfl (by decide) (hP _ _ _ rfl) ?_
      refine q_3 rfl ?_
      first | refine q_38E _ rfl (by decide) rfl (by show _ < 950; omega) (by decide) (v1) ?_ | refine q_38 _ rfl (by decide) rfl (by show _ < 950; omega) (by decide) ?_
      refine q_48 (mj_ev_mono _) [_] rfl rfl rfl rfl rfl ?_
      refine s_183 (by omega) ?_
      rw [if_pos (Nat.le_refl _)]
      first | refine q_neN0 (by omega) (fun hh => ?_) (fun hh => absurd hh (by omega)) | refine q_neI0 (fun hh => ?_) (fun hh => absurd (by omega) hh)
      refine q_3 rfl ?_
      first | refine q_ltN0 (by omega) ?_ | refine q_ltI0 (fun hh => absurd hh (by omega)) (fun hh => ?_)
      refine q_0 ?_
      refine q_23 ?_
      refine q_27 (by first | exact Or.inl rfl | exact Or.inr rfl | assumption | (split <;> first | exact Or.inl rfl | exact Or.inr rfl)) ?_
      exact k
    | cons a q ih =>
      intro hq hw hl
      obtain ⟨h1, h2⟩ := hq a List.mem_cons_self
      have v1 : I 87 ((a :: q ++ 14 :: W').length - 1) = nI a := hw.1
      have e : (a :: q ++ 14 :: W').length - 1 = (q ++ 14 :: W').length := rfl
      have l1 : 1 ≤ (q ++ 14 :: W').length := by rw [List.length_append, List.length_cons]; omega
      have l2 : (q ++ 14 :: W').length + 1 ≤ 900 := hl
      rw [e] at v1 ⊢
      refine q_3 rfl ?_
      first | refine q_ltN0 (by omega) ?_ | refine q_ltI0 (fun hh => absurd hh (by omega)) (fun hh => ?_)
      refine q_5 rfl ?_
      refine q_33 rfl (by decide) (hP _ _ _ rfl) ?_
      refine q_3 rfl ?_
      first | refine q_38E _ rfl (by decide) rfl (by show _ < 950; omega) (by decide) (v1) ?_ | refine q_38 _ rfl (by decide) rfl (by show _ < 950; omega) (by decide) ?_
      refine q_48 (mj_ev_mono _) [_] rfl rfl rfl rfl rfl ?_
      refine s_183 (by omega) ?_
      rw [if_neg (by omega)]
      first | refine q_neN0 (by omega) (fun hh => absurd hh (by omega)) (fun hh => ?_) | refine q_neI0 (fun hh => absurd hh (by omega)) (fun hh => ?_)
      first | refine q_dec rfl (by omega) rfl rfl ?_ | refine q_10 rfl rfl rfl ?_
      refine q_23 ?_
      exact ih (fun x hx => hq x (List.mem_cons_of_mem _ hx)) hw.2 (by omega)
  have l1 : 1 ≤ (p ++ 14 :: W').length := by rw [List.length_append, List.length_cons]; omega
  show mj_run (mj_ev (d + 1)) k190 Q (k190 0) [some (.ref 73), none] [] (107, I, L, P) 0 0
  refine q_5 rfl ?_
  first | refine q_31E rfl (by decide) a4 ?_ | refine q_31 rfl (by decide) ?_
  refine q_0 ?_
  first | refine q_sub (by omega) ?_ | refine q_11 rfl ?_
  refine q_6 rfl rfl rfl ?_
  exact L7 p hp a5 hl
/-- none is open -/
theorem s_190N {p : List Nat} (hP : PS t P) (h28 : I 73 28 = nI p.length) (hw : wst (I 87) p) (hl : p.length ≤ 900) (hp : ∀ a, a ∈ p → 3 ≤ a ∧ a ≤ 11) (k : Q (.inl (some (.int (nI 0)))) (107, I, L, P)) : mj_ev (d + 2) 190 [.ref 73] (107, I, L, P) Q := by
  refine ⟨rfl, ?_⟩
  have L7 : ∀ (q : List Nat), (∀ a, a ∈ q → 3 ≤ a ∧ a ≤ 11) → wst (I 87) q → q.length ≤ 900 → mj_run (mj_ev (d + 1)) k190 Q (k190 7) [some (.ref 73), some (.int (nI q.length - nI 1))] [] (107, I, L, P) 0 0 := by
    intro q
    induction q with
    | nil =>
      intro _ hw hl
      show mj_run (mj_ev (d + 1)) k190 Q (k190 7) [some (.ref 73), some (.int (nI 0 - nI 1))] [] (107, I, L, P) 0 0
      refine q_3 rfl ?_
      refine q_ltI0 (fun hh => ?_) (fun hh => absurd (by decide) hh)
      refine q_3 rfl ?_
      refine q_ltI0 (fun hh => ?_) (fun hh => absurd (by decide) hh)
      refine q_0 ?_
      refine q_27 (by first | exact Or.inl rfl | exact Or.inr rfl | assumption | (split <;> first | exact Or.inl rfl | exact Or.inr rfl)) ?_
      exact k
    | cons a q ih =>
      intro hq hw hl
      obtain ⟨h1, h2⟩ := hq a List.mem_cons_self
      have v1 : I 87 q.length = nI a := hw.1
      have l2 : q.length + 1 ≤ 900 := hl
      rw [show nI (a :: q).length - nI 1 = nI q.length from pk_sub (a := q.length + 1) (b := 1) (by omega)]
      refine q_3 rfl ?_
      first | refine q_ltN0 (by omega) ?_ | refine q_ltI0 (fun hh => absurd hh (by omega)) (fun hh => ?_)
      refine q_5 rfl ?_
      refine q_33 rfl (by decide) (hP _ _ _ rfl) ?_
      refine q_3 rfl ?_
      first | refine q_38E _ rfl (by decide) rfl (by show _ < 950; omega) (by decide) (v1) ?_ | refine q_38 _ rfl (by decide) rfl (by show _ < 950; omega) (by decide) ?_
      refine q_48 (mj_ev_mono _) [_] rfl rfl rfl rfl rfl ?_
      refine s_183 (by omega) ?_
      rw [if_neg (by omega)]
      first | refine q_neN0 (by omega) (fun hh => absurd hh (by omega)) (fun hh => ?_) | refine q_neI0 (fun hh => absurd hh (by omega)) (fun hh => ?_)
      refine q_10 rfl rfl rfl ?_
      refine q_23 ?_
      exact ih (fun x hx => hq x (List.mem_cons_of_mem _ hx)) hw.2 (by omega)
  show mj_run (mj_ev (d + 1)) k190 Q (k190 0) [some (.ref 73), none] [] (107, I, L, P) 0 0
  refine q_5 rfl ?_
  first | refine q_31E rfl (by decide) h28 ?_ | refine q_31 rfl (by decide) ?_
  refine q_0 ?_
  refine q_11 rfl ?_
  refine q_6 rfl rfl rfl ?_
  exact L7 p hp hw hl
theorem s_191 {W' p : List Nat} (hP : PS t P) (hX : XS0 b n j (p ++ 14 :: W') dp ts O I L) (hb : XB b n j (p ++ 14 :: W') O) (hp : ∀ a, a ∈ p → 3 ≤ a ∧ a ≤ 11) (hdp : 2 ≤ dp) (k : ∀ I' L', Eqf (frm [86, 87, 88] XF4) I I' → EqL (frm [] [(73, 21)]) L L' → XS0 b n (j + 1) W' (dp - 1) ts (O ++ p) I' L' → Q (.inl none) (107, I', L', P)) : mj_ev (d + 3) 191 [.ref 73] (107, I, L, P) Q := by
  refine ⟨rfl, ?_⟩
  have tp := hb.top hX.n7
  obtain ⟨d1, d2⟩ := dp_all (W' := W') hp
  show mj_run (mj_ev (d + 2)) k191 Q (k191 0) [some (.ref 73)] [] (107, I, L, P) 0 0
  refine q_5 rfl ?_
  refine q_0 ?_
  refine q_47 (mj_ev_mono _) [_] rfl rfl rfl (by decide) rfl rfl rfl ?_
  refine s_185 (l := 0) hP (by omega) hX.2.2.2.1.1 hX.2.2.2.1.2.1 hX.2.2.2.1.2.2 hX.2.2.2.2.2.1 hX.2.2.2.2.2.2 (by omega) (by omega) (fun I1 e1 f1 f2 f3 => ?_)
  have hX1 := hX.drop e1 f1 f2 f3
  rw [d1, d2] at hX1
  obtain ⟨a1, a2, a3, ⟨a4, a5, a6⟩, ⟨a7, a8, a9, a10⟩, a11, a12⟩ := hX1
  have a4' : I1 73 28 = nI (W'.length + 1) := a4
  have a7' : mj_upI I1 73 28 (nI W'.length) 73 29 = nI dp := a7
  refine q_5 rfl ?_
  refine q_18 rfl ?_
  first | refine q_31E rfl (by decide) a4' ?_ | refine q_31 rfl (by decide) ?_
  refine q_0 ?_
  first | refine q_sub (by omega) ?_ | refine q_11 rfl ?_
  refine q_34 rfl (by decide) ?_
  refine q_5 rfl ?_
  refine q_18 rfl ?_
  first | refine q_31E rfl (by decide) a7' ?_ | refine q_31 rfl (by decide) ?_
  refine q_0 ?_
  first | refine q_sub (by omega) ?_ | refine q_11 rfl ?_
  refine q_34 rfl (by decide) ?_
  refine q_5 rfl ?_
  refine q_47 (mj_ev_mono _) [] rfl rfl rfl (by decide) rfl rfl rfl ?_
  have hX2 : XS0 b n j W' (dp - 1) ts (O ++ p) (mj_upI (mj_upI I1 73 28 (nI W'.length)) 73 29 (nI (dp - 1))) L := ⟨a1.fr (fun _ => rfl) rfl, a2.fr (fun q hq => by rcases hq with rfl | rfl | rfl | rfl | rfl | rfl <;> rfl) rfl, a3, ⟨rfl, a5.2, fun a ha => a6 a (List.mem_cons_of_mem _ ha)⟩, ⟨upI_s, by omega, by omega, fun i g1 g2 => a10 i g1 (by omega)⟩, a11, a12⟩
  refine s_172 (j := j + 1) hP hX2.mb hX2.tm.1 (fun I3 L3 e3 eL hT => ?_)
  refine q_25 ?_
  exact k I3 L3 ((((e1.to rfl rfl).up rfl).up rfl).tr (e3.to rfl rfl)) eL (hX2.go e3 hT)
end M
