/-! the model: what is SEEN, the image, the tape -/
def AS.image (A : AS) : AS := (A.1, A.2.1, A.2.2.1, A.2.2.2.1, A.im, some A.im)
/-- a byte of a number -/
def byt (x : Int32) (s : Nat) : Nat := (x >>> (nI s &&& 31)).toBitVec.toNat % 256
theorem byt_and (x : Int32) (s : Nat) : x >>> (nI s &&& 31) &&& nI 255 = nI (byt x s) := pk_and _ 8 (by decide)
def AS.lay (A : AS) (x : Int32) : AS := ((fun j => if j < A.td then A.tp j else byt x (24 - 8 * (j - A.td)), A.td + 4), A.2)
theorem SN.push {n : Nat} {f f' : Nat → Int32} {se : SE} {e : Nat × Nat × Option Nat} (hl : se.length < 8) (h : SN n f se) (e1 : ∀ j, j < 3 * se.length → f' j = f j) (e2 : f' (3 * se.length) = nI e.1) (e3 : f' (3 * se.length + 1) = nI e.2.1) (e4 : f' (3 * se.length + 2) = mI e.2.2) (h2 : e.1 < n ∧ 1 ≤ e.2.1 ∧ e.2.1 ≤ 20 ∧ (∀ q, e.2.2 = some q → q < n)) : SN n f' (se ++ [e]) := by
  refine ⟨by rw [List.length_append]; show se.length + 1 ≤ 8; omega, fun i r hr => ?_⟩
  by_cases hi : i < se.length
  · rw [List.getElem?_append_left hi] at hr
    obtain ⟨g1, g2, g3, g4⟩ := h.2 i r hr
    exact ⟨(e1 _ (by omega)).trans g1, (e1 _ (by omega)).trans g2, (e1 _ (by omega)).trans g3, g4⟩
  · rw [List.getElem?_append_right (by omega)] at hr
    have : i = se.length := by
      by_cases q : i - se.length = 0
      · omega
      · rw [List.getElem?_eq_none (by show 1 ≤ i - se.length; omega)] at hr
        cases hr
    subst this
    rw [Nat.sub_self] at hr
    cases hr
    exact ⟨e2, e3, e4, h2⟩
section M
variable {I : mj_I} {L : mj_L} {P : mj_P} {Q : mj_Q} {d n r t a b : Nat} {A : AS}
theorem s_262 {N : Nat} {o : Option Nat} (hP : PS t P) (hS : MS A I L) (ha : a < A.w.n) (ho : ∀ q, o = some q → q < A.w.n) (hne : o ≠ some a) (h8 : A.se.length ≠ 8) (h1 : 1 ≤ N) (hN : N ≤ 20) (k : kW Q I L P (A.see (a, N, o)) 0 (some (.int (nI (A.se.length + 1))))) : mj_ev (d + 12) 262 [.ref 73, .int (nI a), .int (nI N), .int (mI o)] (107, I, L, P) Q := by
  refine ⟨rfl, ?_⟩
  have hS0 := hS.i0
  have hn10 := hS.n10
  have hsn := hS0.2.1.2.2.2.1
  have hl8 : A.se.length ≤ 8 := hsn.1
  have h52 : I0 I 73 52 = nI A.se.length := hS0.2.1.2.2.2.2
  have h52a : mj_upI (I0 I) 100 (3 * A.se.length) (nI a) 73 52 = nI A.se.length := h52
  have h52b : mj_upI (mj_upI (mj_upI (mj_upI (I0 I) 100 (3 * A.se.length) (nI a)) 100 (3 * A.se.length + 1) (nI N)) 100 (3 * A.se.length + 2) (mI o)) 73 52 (nI (A.se.length + 1)) 73 52 = nI (A.se.length + 1) := upI_s
  have fin : Q (.inl (some (.int (nI (A.se.length + 1))))) (107, mj_upI (mj_upI (mj_upI (mj_upI (I0 I) 100 (3 * A.se.length) (nI a)) 100 (3 * A.se.length + 1) (nI N)) 100 (3 * A.se.length + 2) (mI o)) 73 52 (nI (A.se.length + 1)), L, P) := by
    have fa : Eqf FA (I0 I) (mj_upI (mj_upI (mj_upI (mj_upI (I0 I) 100 (3 * A.se.length) (nI a)) 100 (3 * A.se.length + 1) (nI N)) 100 (3 * A.se.length + 2) (mI o)) 73 52 (nI (A.se.length + 1))) := (((Eqf.rf.up (by unfold FA; simp)).up (by unfold FA; simp)).up (by unfold FA; simp)).up rfl
    refine k.act fa (hS0.si fa EqL.rf ⟨hS0.2.1.1, hS0.2.1.2.1, hS0.2.1.2.2.1, SN.push (by show A.se.length < 8; omega) hsn (fun j hj => ?_) ?_ ?_ ?_ ⟨ha, h1, hN, ho⟩, ?_⟩) rfl
    · rw [upI_c (by decide), upI_j (by show j ≠ _; omega), upI_j (by show j ≠ _; omega), upI_j (by show j ≠ _; omega)]
    · rw [upI_c (by decide), upI_j (by show 3 * A.se.length ≠ _; omega), upI_j (by show 3 * A.se.length ≠ _; omega)]
      exact upI_s
    · rw [upI_c (by decide), upI_j (by show 3 * A.se.length + 1 ≠ _; omega)]
      exact upI_s
    · rw [upI_c (by decide)]
      exact upI_s
    · rw [List.length_append]
      exact upI_s
  show mj_run (mj_ev (d + 11)) k262 Q (k262 0) [some (.ref 73), some (.int (nI a)), some (.int (nI N)), some (.int (mI o))] [] (107, I, L, P) 0 0
  have J : mj_run (mj_ev (d + 11)) k262 Q (k262 28) [some (.ref 73), some (.int (nI a)), some (.int (nI N)), some (.int (mI o))] [] (107, I0 I, L, P) 0 0 := by
    refine q_5 rfl ?_
    first | refine q_31E rfl (by decide) h52 ?_ | refine q_31E rfl (by decide) h52b ?_ | refine q_31 rfl (by decide) ?_
    refine q_0 ?_
    refine q_eqN (by omega) (by omega) (fun hh => absurd hh (by omega)) (fun hh => ?_)
    refine q_3 rfl ?_
    refine q_0 ?_
    refine q_0 ?_
    refine q_48 (mj_ev_mono _) [_, _, _] rfl rfl rfl rfl rfl ?_
    refine s_164 ?_
    rw [if_neg (nI_nlt (by omega) (by omega)), if_neg (nI_nlt (by omega) (by omega))]
    first | refine q_eqN0 (by omega) (fun hh => absurd hh (by omega)) (fun hh => ?_) | refine q_eqI0 (fun hh => absurd hh (by omega)) (fun hh => ?_)
    refine q_3 rfl ?_
    refine q_3 rfl ?_
    refine q_neI (fun _ => ?_) (fun q => absurd (fun e => hne (by cases o with | none => exact absurd e (mI_ne (by omega)) | some z => exact congrArg some ((nI_eq (by omega) (by have := ho z rfl; omega)).mp e).symm)) q)
    refine q_5 rfl ?_
    refine q_33 rfl (by decide) (hP _ _ _ rfl) ?_
    refine q_0 ?_
    refine q_5 rfl ?_
    first | refine q_31E rfl (by decide) h52 ?_ | refine q_31E rfl (by decide) h52b ?_ | refine q_31 rfl (by decide) ?_
    first | refine q_mul ?_ | refine q_11 rfl ?_
    refine q_3 rfl ?_
    refine q_42 _ rfl (by decide) rfl (by show _ < 24; omega) (by decide) ?_
    refine q_5 rfl ?_
    refine q_33 rfl (by decide) (hP _ _ _ rfl) ?_
    refine q_0 ?_
    refine q_5 rfl ?_
    first | refine q_31E rfl (by decide) h52 ?_ | refine q_31E rfl (by decide) h52b ?_ | refine q_31 rfl (by decide) ?_
    first | refine q_mul ?_ | refine q_11 rfl ?_
    refine q_0 ?_
    first | refine q_add ?_ | refine q_11 rfl ?_
    refine q_3 rfl ?_
    refine q_42 _ rfl (by decide) rfl (by show _ < 24; omega) (by decide) ?_
    refine q_5 rfl ?_
    refine q_33 rfl (by decide) (hP _ _ _ rfl) ?_
    refine q_0 ?_
    refine q_5 rfl ?_
    first | refine q_31E rfl (by decide) h52 ?_ | refine q_31E rfl (by decide) h52b ?_ | refine q_31 rfl (by decide) ?_
    first | refine q_mul ?_ | refine q_11 rfl ?_
    refine q_0 ?_
    first | refine q_add ?_ | refine q_11 rfl ?_
    refine q_3 rfl ?_
    refine q_42 _ rfl (by decide) rfl (by show _ < 24; omega) (by decide) ?_
    refine q_5 rfl ?_
    refine q_18 rfl ?_
    first | refine q_31E rfl (by decide) h52 ?_ | refine q_31E rfl (by decide) h52b ?_ | refine q_31 rfl (by decide) ?_
    refine q_0 ?_
    first | refine q_add ?_ | refine q_11 rfl ?_
    refine q_34 rfl (by decide) ?_
    refine q_5 rfl ?_
    first | refine q_31E rfl (by decide) h52 ?_ | refine q_31E rfl (by decide) h52b ?_ | refine q_31 rfl (by decide) ?_
    refine q_26 ?_
    exact fin
  cases o with
  | none =>
    refine q_5 rfl ?_
    refine q_0 ?_
    refine q_34 rfl (by decide) ?_
    refine q_5 rfl ?_
    refine q_3 rfl ?_
    refine q_47 (mj_ev_mono _) [_] rfl rfl rfl (by decide) rfl rfl rfl ?_
    refine s_221T hS0.hn hS.n10 I0_th ha ?_
    first | refine q_eqN0 (by omega) (fun hh => absurd hh (by omega)) (fun hh => ?_) | refine q_eqI0 (fun hh => absurd hh (by omega)) (fun hh => ?_)
    refine q_3 rfl ?_
    refine q_1 ?_
    refine q_eqI (fun _ => ?_) (fun h => absurd rfl h)
    exact J
  | some z =>
    have hz := ho z rfl
    refine q_5 rfl ?_
    refine q_0 ?_
    refine q_34 rfl (by decide) ?_
    refine q_5 rfl ?_
    refine q_3 rfl ?_
    refine q_47 (mj_ev_mono _) [_] rfl rfl rfl (by decide) rfl rfl rfl ?_
    refine s_221T hS0.hn hS.n10 I0_th ha ?_
    first | refine q_eqN0 (by omega) (fun hh => absurd hh (by omega)) (fun hh => ?_) | refine q_eqI0 (fun hh => absurd hh (by omega)) (fun hh => ?_)
    refine q_3 rfl ?_
    refine q_1 ?_
    refine q_eqI (fun h => absurd h (mI_ne (by omega))) (fun _ => ?_)
    refine q_5 rfl ?_
    refine q_3 rfl ?_
    refine q_47 (mj_ev_mono _) [_] rfl rfl rfl (by decide) rfl rfl rfl ?_
    refine s_221T hS0.hn hS.n10 I0_th hz ?_
    first | refine q_neN0 (by omega) (fun hh => ?_) (fun hh => absurd hh (by omega)) | refine q_neI0 (fun hh => ?_) (fun hh => absurd (by omega) hh)
    exact J
theorem s_262R {x : Int32} {o : Option Nat} (hP : PS t P) (hS : MS A I L) (ha : a < A.w.n) (ho : ∀ q, o = some q → q < A.w.n) (hr : A.se.length = 8 ∨ (x < nI 1 ∨ nI 20 < x) ∨ o = some a) (k : kW Q I L P (A.rfs 2) 0 (some (.int (-(nI 1))))) : mj_ev (d + 12) 262 [.ref 73, .int (nI a), .int x, .int (mI o)] (107, I, L, P) Q := by
  refine ⟨rfl, ?_⟩
  have hS0 := hS.i0
  have hn10 := hS.n10
  have hsn := hS0.2.1.2.2.2.1
  have hl8 : A.se.length ≤ 8 := hsn.1
  have h52 : I0 I 73 52 = nI A.se.length := hS0.2.1.2.2.2.2
  show mj_run (mj_ev (d + 11)) k262 Q (k262 0) [some (.ref 73), some (.int (nI a)), some (.int x), some (.int (mI o))] [] (107, I, L, P) 0 0
  have J : mj_run (mj_ev (d + 11)) k262 Q (k262 28) [some (.ref 73), some (.int (nI a)), some (.int x), some (.int (mI o))] [] (107, I0 I, L, P) 0 0 := by
    by_cases h1 : A.se.length = 8
    · refine q_5 rfl ?_
      first | refine q_31E rfl (by decide) h52 ?_ | refine q_31 rfl (by decide) ?_
      refine q_0 ?_
      refine q_eqN (by omega) (by omega) (fun hh => ?_) (fun hh => absurd hh (by omega))
      refine q_5 rfl ?_
      refine q_0 ?_
      refine q_47 (mj_ev_mono _) [_] rfl rfl rfl (by decide) rfl rfl rfl ?_
      refine s_198 hP (by omega) ?_
      refine q_26 ?_
      exact k.ref (by omega) hS
    · by_cases h2 : x < nI 1 ∨ nI 20 < x
      · refine q_5 rfl ?_
        first | refine q_31E rfl (by decide) h52 ?_ | refine q_31 rfl (by decide) ?_
        refine q_0 ?_
        refine q_eqN (by omega) (by omega) (fun hh => absurd hh (by omega)) (fun hh => ?_)
        refine q_3 rfl ?_
        refine q_0 ?_
        refine q_0 ?_
        refine q_48 (mj_ev_mono _) [_, _, _] rfl rfl rfl rfl rfl ?_
        refine s_164 ?_
        rw [show (if x < nI 1 then 0 else if nI 20 < x then 0 else 1) = 0 from by rcases h2 with h | h <;> simp [h]]
        first | refine q_eqN0 (by omega) (fun hh => ?_) (fun hh => absurd hh (by omega)) | refine q_eqI0 (fun hh => ?_) (fun hh => absurd (by omega) hh)
        refine q_5 rfl ?_
        refine q_0 ?_
        refine q_47 (mj_ev_mono _) [_] rfl rfl rfl (by decide) rfl rfl rfl ?_
        refine s_198 hP (by omega) ?_
        refine q_26 ?_
        exact k.ref (by omega) hS
      · have h3 : o = some a := hr.elim (fun z => absurd z h1) (fun z => z.elim (fun z => absurd z h2) id)
        subst h3
        refine q_5 rfl ?_
        first | refine q_31E rfl (by decide) h52 ?_ | refine q_31 rfl (by decide) ?_
        refine q_0 ?_
        refine q_eqN (by omega) (by omega) (fun hh => absurd hh (by omega)) (fun hh => ?_)
        refine q_3 rfl ?_
        refine q_0 ?_
        refine q_0 ?_
        refine q_48 (mj_ev_mono _) [_, _, _] rfl rfl rfl rfl rfl ?_
        refine s_164 ?_
        rw [if_neg (fun q => h2 (Or.inl q)), if_neg (fun q => h2 (Or.inr q))]
        first | refine q_eqN0 (by omega) (fun hh => absurd hh (by omega)) (fun hh => ?_) | refine q_eqI0 (fun hh => absurd hh (by omega)) (fun hh => ?_)
        refine q_3 rfl ?_
        refine q_3 rfl ?_
        refine q_neI (fun h => absurd rfl h) (fun _ => ?_)
        refine q_5 rfl ?_
        refine q_0 ?_
        refine q_47 (mj_ev_mono _) [_] rfl rfl rfl (by decide) rfl rfl rfl ?_
        refine s_198 hP (by omega) ?_
        refine q_26 ?_
        exact k.ref (by omega) hS
  cases o with
  | none =>
    refine q_5 rfl ?_
    refine q_0 ?_
    refine q_34 rfl (by decide) ?_
    refine q_5 rfl ?_
    refine q_3 rfl ?_
    refine q_47 (mj_ev_mono _) [_] rfl rfl rfl (by decide) rfl rfl rfl ?_
    refine s_221T hS0.hn hS.n10 I0_th ha ?_
    first | refine q_eqN0 (by omega) (fun hh => absurd hh (by omega)) (fun hh => ?_) | refine q_eqI0 (fun hh => absurd hh (by omega)) (fun hh => ?_)
    refine q_3 rfl ?_
    refine q_1 ?_
    refine q_eqI (fun _ => ?_) (fun h => absurd rfl h)
    exact J
  | some z =>
    have hz := ho z rfl
    refine q_5 rfl ?_
    refine q_0 ?_
    refine q_34 rfl (by decide) ?_
    refine q_5 rfl ?_
    refine q_3 rfl ?_
    refine q_47 (mj_ev_mono _) [_] rfl rfl rfl (by decide) rfl rfl rfl ?_
    refine s_221T hS0.hn hS.n10 I0_th ha ?_
    first | refine q_eqN0 (by omega) (fun hh => absurd hh (by omega)) (fun hh => ?_) | refine q_eqI0 (fun hh => absurd hh (by omega)) (fun hh => ?_)
    refine q_3 rfl ?_
    refine q_1 ?_
    refine q_eqI (fun h => absurd h (mI_ne (by omega))) (fun _ => ?_)
    refine q_5 rfl ?_
    refine q_3 rfl ?_
    refine q_47 (mj_ev_mono _) [_] rfl rfl rfl (by decide) rfl rfl rfl ?_
    refine s_221T hS0.hn hS.n10 I0_th hz ?_
    first | refine q_neN0 (by omega) (fun hh => ?_) (fun hh => absurd hh (by omega)) | refine q_neI0 (fun hh => ?_) (fun hh => absurd (by omega) hh)
    exact J
theorem s_262F {x y z : Int32} (hS : MS A I L) (hx : (x < 0 ∨ nI A.w.n ≤ x) ∨ (∃ a, a < A.w.n ∧ x = nI a) ∧ ¬ z = -(nI 1) ∧ (z < 0 ∨ nI A.w.n ≤ z)) (k : kM Q I L P 1 (.int (nI 0))) : mj_ev (d + 12) 262 [.ref 73, .int x, .int y, .int z] (107, I, L, P) Q := by
  refine ⟨rfl, ?_⟩
  have hS0 := hS.i0
  show mj_run (mj_ev (d + 11)) k262 Q (k262 0) [some (.ref 73), some (.int x), some (.int y), some (.int z)] [] (107, I, L, P) 0 0
  rcases hx with hx | ⟨⟨a, ha, rfl⟩, hz, hy⟩
  · refine q_5 rfl ?_
    refine q_0 ?_
    refine q_34 rfl (by decide) ?_
    refine q_5 rfl ?_
    refine q_3 rfl ?_
    refine q_47 (mj_ev_mono _) [_] rfl rfl rfl (by decide) rfl rfl rfl ?_
    refine s_221F hS0.hn hS.n10 I0_th hx ?_
    first | refine q_eqN0 (by omega) (fun hh => ?_) (fun hh => absurd hh (by omega)) | refine q_eqI0 (fun hh => ?_) (fun hh => absurd (by omega) hh)
    refine q_0 ?_
    refine q_26 ?_
    exact k.bad
  · refine q_5 rfl ?_
    refine q_0 ?_
    refine q_34 rfl (by decide) ?_
    refine q_5 rfl ?_
    refine q_3 rfl ?_
    refine q_47 (mj_ev_mono _) [_] rfl rfl rfl (by decide) rfl rfl rfl ?_
    refine s_221T hS0.hn hS.n10 I0_th ha ?_
    first | refine q_eqN0 (by omega) (fun hh => absurd hh (by omega)) (fun hh => ?_) | refine q_eqI0 (fun hh => absurd hh (by omega)) (fun hh => ?_)
    refine q_3 rfl ?_
    refine q_1 ?_
    refine q_eqI (fun h => absurd h hz) (fun _ => ?_)
    refine q_5 rfl ?_
    refine q_3 rfl ?_
    refine q_47 (mj_ev_mono _) [_] rfl rfl rfl (by decide) rfl rfl rfl ?_
    refine s_221F hS0.hn hS.n10 I0_th hy ?_
    first | refine q_neN0 (by omega) (fun hh => absurd hh (by omega)) (fun hh => ?_) | refine q_neI0 (fun hh => absurd hh (by omega)) (fun hh => ?_)
    refine q_0 ?_
    refine q_26 ?_
    exact k.bad
theorem s_263 (hS : MS A I L) (k : kW Q I L P A.forget 0 none) : mj_ev (d + 12) 263 [.ref 73] (107, I, L, P) Q := by
  refine ⟨rfl, ?_⟩
  have hS0 := hS.i0
  have fa : Eqf FA (I0 I) (mj_upI (I0 I) 73 52 (nI 0)) := Eqf.rf.up rfl
  show mj_run (mj_ev (d + 11)) k263 Q (k263 0) [some (.ref 73)] [] (107, I, L, P) 0 0
  refine q_5 rfl ?_
  refine q_0 ?_
  refine q_34 rfl (by decide) ?_
  refine q_5 rfl ?_
  refine q_0 ?_
  refine q_34 rfl (by decide) ?_
  refine q_25 ?_
  exact k.act fa (hS0.si fa EqL.rf ⟨hS0.2.1.1, hS0.2.1.2.1, hS0.2.1.2.2.1, ⟨by simp, fun i e h => by cases h⟩, upI_s⟩) rfl
theorem s_165 {x y N : Nat} (hx : mj_sh x = 1) (hy : mj_sh y = 1) (hx7 : x < 107) (hy7 : y < 107) (lx : mj_ln x = N) (ly : mj_ln y = N) (hN : N < 2 ^ 31) (hxy : x ≠ y) (k : ∀ I', (∀ c, c ≠ y → I' c = I c) → (∀ j, j < N → I' y j = I x j) → Q (.inl none) (107, I', L, P)) : mj_ev (d + 1) 165 [.ref 73, .ref x, .ref y] (107, I, L, P) Q := by
  refine ⟨rfl, ?_⟩
  have L2 : ∀ i, i ≤ N → ∀ I', (∀ c, c ≠ y → I' c = I c) → (∀ j, j < i → I' y j = I x j) → mj_run (mj_ev d) k165 Q (k165 2) [some (.ref 73), some (.ref x), some (.ref y), some (.int (nI i))] [] (107, I', L, P) 0 0 := by
    refine loop_up ?_ (fun i hi ih => ?_)
    · intro I' h1 h2
      refine q_3 rfl ?_
      refine q_5 rfl ?_
      refine q_46 (by omega) (by omega) hx7 ?_
      rw [lx]
      refine q_geN (by omega) (by omega) (fun hh => ?_) (fun hh => absurd hh (by omega))
      refine q_25 ?_
      exact k I' h1 h2
    · intro I' h1 h2
      refine q_3 rfl ?_
      refine q_5 rfl ?_
      refine q_46 (by omega) (by omega) hx7 ?_
      rw [lx]
      refine q_geN (by omega) (by omega) (fun hh => absurd hh (by omega)) (fun hh => ?_)
      refine q_5 rfl ?_
      refine q_3 rfl ?_
      refine q_5 rfl ?_
      refine q_3 rfl ?_
      refine q_38 i hx hx7 rfl (by omega) (by omega) ?_
      refine q_42 i hy hy7 rfl (by omega) (by omega) ?_
      refine q_inc rfl rfl rfl ?_
      refine q_23 ?_
      refine ih _ (fun c hc => ?_) (fun j hj => ?_)
      · rw [upI_c hc]
        exact h1 c hc
      · by_cases e : j = i
        · subst e
          rw [upI_s, h1 x hxy]
        · rw [upI_j e]
          exact h2 j (by omega)
  show mj_run (mj_ev d) k165 Q (k165 0) [some (.ref 73), some (.ref x), some (.ref y), none] [] (107, I, L, P) 0 0
  refine q_0 ?_
  refine q_6 rfl rfl rfl ?_
  exact L2 0 (by omega) I (fun _ _ => rfl) (fun j hj => absurd hj (by omega))
theorem AC.cp {f f' : Nat → Int32} {ac : List RO} (h : AC n f ac) (e : ∀ j, j < 1320 → f' j = f j) : AC n f' ac := ⟨h.1, fun i r hr => (h.2 i r hr).fr (fun j _ h2 => e j (by
  have := (List.getElem?_eq_some_iff.mp hr).1
  have := h.1
  omega))⟩
theorem SN.cp {f f' : Nat → Int32} {se : SE} (h : SN n f se) (e : ∀ j, j < 24 → f' j = f j) : SN n f' se := ⟨h.1, fun i r hr => by
  have h1 := (List.getElem?_eq_some_iff.mp hr).1
  have h2 := h.1
  obtain ⟨g1, g2, g3, g4⟩ := h.2 i r hr
  exact ⟨(e _ (by omega)).trans g1, (e _ (by omega)).trans g2, (e _ (by omega)).trans g3, g4⟩⟩
theorem s_280 (hP : PS t P) (hS : MS A I L) (k : kW Q I L P A.image 0 none) : mj_ev (d + 12) 280 [.ref 73] (107, I, L, P) Q := by
  refine ⟨rfl, ?_⟩
  have hS0 := hS.i0
  have h40 : I0 I 73 40 = nI A.ac.length := hS0.2.1.2.2.1
  have h52 : I0 I 73 52 = nI A.se.length := hS0.2.1.2.2.2.2
  have L28 : ∀ i, i ≤ 33 → ∀ I', Eqf (frm [103] [(73, 57), (73, 58), (73, 59)]) (I0 I) I' → I' 73 57 = nI 1 → I' 73 58 = nI A.ac.length → I' 73 59 = nI A.se.length → (∀ j, j < i → I' 103 j = I0 I 89 j) → mj_run (mj_ev (d + 11)) k280 Q (k280 28) [some (.ref 73), some (.int (nI i))] [] (107, I', L, P) 0 0 := by
    refine loop_up ?_ (fun i hi ih => ?_)
    · intro I' e' g1 g2 g3 g4
      refine q_3 rfl ?_
      refine q_0 ?_
      refine q_geN (by omega) (by omega) (fun hh => ?_) (fun hh => absurd hh (by omega))
      refine q_5 rfl ?_
      refine q_5 rfl ?_
      refine q_33 rfl (by decide) (hP _ _ _ rfl) ?_
      refine q_5 rfl ?_
      refine q_33 rfl (by decide) (hP _ _ _ rfl) ?_
      refine q_47 (mj_ev_mono _) [_, _] rfl rfl rfl (by decide) rfl rfl rfl ?_
      refine s_165 (N := 1320) rfl rfl (by decide) (by decide) rfl rfl (by decide) (by decide) (fun I2 a1 a2 => ?_)
      refine q_5 rfl ?_
      refine q_5 rfl ?_
      refine q_33 rfl (by decide) (hP _ _ _ rfl) ?_
      refine q_5 rfl ?_
      refine q_33 rfl (by decide) (hP _ _ _ rfl) ?_
      refine q_47 (mj_ev_mono _) [_, _] rfl rfl rfl (by decide) rfl rfl rfl ?_
      refine s_165 (N := 24) rfl rfl (by decide) (by decide) rfl rfl (by decide) (by decide) (fun I3 b1 b2 => ?_)
      refine q_25 ?_
      have E : Eqf (frm [103, 104, 105] [(73, 57), (73, 58), (73, 59)]) (I0 I) I3 := by
        intro c j q
        have q1 : frm [103] [(73, 57), (73, 58), (73, 59)] c j = false := frm_mono rfl rfl c j q
        have n5 : c ≠ 105 := fun z => by subst z; rw [frm_cell (by simp)] at q; cases q
        have n4 : c ≠ 104 := fun z => by subst z; rw [frm_cell (by simp)] at q; cases q
        rw [b1 c n5, a1 c n4]
        exact e' c j q1
      refine k I3 L ?_ (fun c j hc => ?_) (fun _ _ _ => rfl) ((E 73 0 rfl).trans I0_th)
      · obtain ⟨h1, h2, h3, h4, h5, h6, h7, h8, h9, h10, h11⟩ := hS0
        have x89 : I3 89 = I0 I 89 := funext fun j => E 89 j rfl
        have x90 : I3 90 = I0 I 90 := funext fun j => E 90 j rfl
        have x100 : I3 100 = I0 I 100 := funext fun j => E 100 j rfl
        refine ⟨h1.fr E (fun _ => ⟨rfl, rfl, rfl, rfl, rfl, rfl, rfl, rfl⟩), ?_, ?_, (E 73 10 rfl).trans h4, h5, fun j hj => ⟨(E 79 j rfl).trans (h6 j hj).1, (h6 j hj).2⟩, (E 73 12 rfl).trans h7, h8, fun j hj => (E 80 j rfl).trans (h9 j hj), (E 94 0 rfl).trans h10, h11⟩
        · rw [x89, x90, x100, E 73 40 rfl, E 73 52 rfl]
          exact h2
        · have y103 : ∀ j, j < 33 → I3 103 j = I0 I 89 j := fun j hj => by rw [b1 103 (by decide), a1 103 (by decide)]; exact g4 j hj
          have y104 : ∀ j, j < 1320 → I3 104 j = I0 I 90 j := fun j hj => by rw [b1 104 (by decide), a2 j hj]; exact e' 90 j rfl
          have y105 : ∀ j, j < 24 → I3 105 j = I0 I 100 j := fun j hj => by rw [b2 j hj, a1 100 (by decide)]; exact e' 100 j rfl
          show I3 73 57 = nI 1 ∧ MI A.w.n (I3 103) (I3 104) (I3 105) (I3 73 58) (I3 73 59) A.im
          rw [b1 73 (by decide), a1 73 (by decide)]
          exact ⟨g1, h2.1.fr (fun j _ hj => y103 j (by omega)), h2.2.1.cp y104, g2, h2.2.2.2.1.cp y105, g3⟩
      · rw [E c j (by unfold frm; simp; omega)]
        exact I0_fm c j (FM_lo hc)
    · intro I' e' g1 g2 g3 g4
      have q : I' 89 i = I0 I 89 i := e' 89 i rfl
      refine q_3 rfl ?_
      refine q_0 ?_
      refine q_geN (by omega) (by omega) (fun hh => absurd hh (by omega)) (fun hh => ?_)
      refine q_5 rfl ?_
      refine q_33 rfl (by decide) (hP _ _ _ rfl) ?_
      refine q_3 rfl ?_
      refine q_5 rfl ?_
      refine q_33 rfl (by decide) (hP _ _ _ rfl) ?_
      refine q_3 rfl ?_
      first | refine q_38E _ rfl (by decide) rfl (by show _ < 66; omega) (by decide) (q) ?_ | refine q_38 _ rfl (by decide) rfl (by show _ < 66; omega) (by decide) ?_
      refine q_42 _ rfl (by decide) rfl (by show _ < 33; omega) (by decide) ?_
      first | refine q_inc rfl rfl rfl ?_ | refine q_9 rfl rfl rfl ?_
      refine q_23 ?_
      refine ih _ (e'.up rfl) g1 g2 g3 (fun j hj => ?_)
      by_cases e : j = i
      · subst e
        exact upI_s
      · rw [upI_j e]
        exact g4 j (by omega)
  show mj_run (mj_ev (d + 11)) k280 Q (k280 0) [some (.ref 73), none] [] (107, I, L, P) 0 0
  refine q_5 rfl ?_
  refine q_0 ?_
  refine q_34 rfl (by decide) ?_
  refine q_5 rfl ?_
  refine q_0 ?_
  refine q_35 rfl (by decide) (by first | exact Or.inl rfl | exact Or.inr rfl | assumption) ?_
  refine q_5 rfl ?_
  refine q_5 rfl ?_
  first | refine q_31E rfl (by decide) h40 ?_ | refine q_31 rfl (by decide) ?_
  refine q_34 rfl (by decide) ?_
  refine q_5 rfl ?_
  refine q_5 rfl ?_
  first | refine q_31E rfl (by decide) h52 ?_ | refine q_31 rfl (by decide) ?_
  refine q_34 rfl (by decide) ?_
  refine q_0 ?_
  refine q_6 rfl rfl rfl ?_
  exact L28 0 (by omega) _ (((Eqf.rf.up rfl).up rfl).up rfl) rfl rfl rfl (fun j hj => absurd hj (by omega))
theorem s_281 {i : IM} (hP : PS t P) (hS : MS A I L) (hk : A.kp = some i) (k : kW Q I L P (A.si i) 0 (some (.int (nI 1)))) : mj_ev (d + 12) 281 [.ref 73] (107, I, L, P) Q := by
  refine ⟨rfl, ?_⟩
  have hS0 := hS.i0
  have hkp := hS0.2.2.1
  rw [hk] at hkp
  obtain ⟨h57, hi1, hi2, h58, hi3, h59⟩ : I0 I 73 57 = nI 1 ∧ MI A.w.n (I0 I 103) (I0 I 104) (I0 I 105) (I0 I 73 58) (I0 I 73 59) i := hkp
  have L32 : ∀ j0, j0 ≤ 33 → ∀ I', Eqf (frm [89] [(73, 40), (73, 52)]) (I0 I) I' → I' 73 40 = nI i.2.1.length → I' 73 52 = nI i.2.2.length → (∀ j, j < j0 → I' 89 j = I0 I 103 j) → mj_run (mj_ev (d + 11)) k281 Q (k281 32) [some (.ref 73), some (.int (nI j0))] [] (107, I', L, P) 0 0 := by
    refine loop_up ?_ (fun j0 hj0 ih => ?_)
    · intro I' e' g2 g3 g4
      refine q_3 rfl ?_
      refine q_0 ?_
      refine q_geN (by omega) (by omega) (fun hh => ?_) (fun hh => absurd hh (by omega))
      refine q_5 rfl ?_
      refine q_5 rfl ?_
      refine q_33 rfl (by decide) (hP _ _ _ rfl) ?_
      refine q_5 rfl ?_
      refine q_33 rfl (by decide) (hP _ _ _ rfl) ?_
      refine q_47 (mj_ev_mono _) [_, _] rfl rfl rfl (by decide) rfl rfl rfl ?_
      refine s_165 (N := 1320) rfl rfl (by decide) (by decide) rfl rfl (by decide) (by decide) (fun I2 a1 a2 => ?_)
      refine q_5 rfl ?_
      refine q_5 rfl ?_
      refine q_33 rfl (by decide) (hP _ _ _ rfl) ?_
      refine q_5 rfl ?_
      refine q_33 rfl (by decide) (hP _ _ _ rfl) ?_
      refine q_47 (mj_ev_mono _) [_, _] rfl rfl rfl (by decide) rfl rfl rfl ?_
      refine s_165 (N := 24) rfl rfl (by decide) (by decide) rfl rfl (by decide) (by decide) (fun I3 b1 b2 => ?_)
      refine q_0 ?_
      refine q_27 (by first | exact Or.inl rfl | exact Or.inr rfl | assumption | (split <;> first | exact Or.inl rfl | exact Or.inr rfl)) ?_
      have fa : Eqf FA (I0 I) I3 := by
        intro c j q
        unfold FA at q
        simp only [Bool.or_eq_false_iff] at q
        have n5 : c ≠ 100 := fun z => by subst z; exact absurd q.1.2 (by decide)
        have n4 : c ≠ 90 := fun z => by subst z; exact absurd q.1.1.2 (by decide)
        rw [b1 c n5, a1 c n4]
        refine e' c j ?_
        unfold frm
        simp only [List.any_cons, List.any_nil, Bool.or_false, Bool.or_eq_false_iff]
        refine ⟨q.1.1.1.2, ?_, ?_⟩
        · cases hc : (c == 73) with
          | false => rfl
          | true => rw [hc] at q; simp at q; simp [q]
        · cases hc : (c == 73) with
          | false => rfl
          | true => rw [hc] at q; simp at q; simp [q]
      have y89 : ∀ j, j < 33 → I3 89 j = I0 I 103 j := fun j hj => by rw [b1 89 (by decide), a1 89 (by decide)]; exact g4 j hj
      have y90 : ∀ j, j < 1320 → I3 90 j = I0 I 104 j := fun j hj => by rw [b1 90 (by decide), a2 j hj]; exact e' 104 j rfl
      have y100 : ∀ j, j < 24 → I3 100 j = I0 I 105 j := fun j hj => by rw [b2 j hj, a1 105 (by decide)]; exact e' 105 j rfl
      refine k.act fa (hS0.si fa EqL.rf ⟨hi1.fr (fun j _ hj => y89 j (by omega)), hi2.cp y90, ?_, hi3.cp y100, ?_⟩) (by rw [b1 73 (by decide), a1 73 (by decide), e' 73 0 rfl]; exact I0_th)
      · rw [b1 73 (by decide), a1 73 (by decide)]
        exact g2
      · rw [b1 73 (by decide), a1 73 (by decide)]
        exact g3
    · intro I' e' g2 g3 g4
      have q : I' 103 j0 = I0 I 103 j0 := e' 103 j0 rfl
      refine q_3 rfl ?_
      refine q_0 ?_
      refine q_geN (by omega) (by omega) (fun hh => absurd hh (by omega)) (fun hh => ?_)
      refine q_5 rfl ?_
      refine q_33 rfl (by decide) (hP _ _ _ rfl) ?_
      refine q_3 rfl ?_
      refine q_5 rfl ?_
      refine q_33 rfl (by decide) (hP _ _ _ rfl) ?_
      refine q_3 rfl ?_
      first | refine q_38E _ rfl (by decide) rfl (by show _ < 33; omega) (by decide) (q) ?_ | refine q_38 _ rfl (by decide) rfl (by show _ < 33; omega) (by decide) ?_
      refine q_42 _ rfl (by decide) rfl (by show _ < 66; omega) (by decide) ?_
      first | refine q_inc rfl rfl rfl ?_ | refine q_9 rfl rfl rfl ?_
      refine q_23 ?_
      refine ih _ (e'.up rfl) g2 g3 (fun j hj => ?_)
      by_cases e : j = j0
      · subst e
        exact upI_s
      · rw [upI_j e]
        exact g4 j (by omega)
  show mj_run (mj_ev (d + 11)) k281 Q (k281 0) [some (.ref 73), none] [] (107, I, L, P) 0 0
  refine q_5 rfl ?_
  refine q_0 ?_
  refine q_34 rfl (by decide) ?_
  refine q_5 rfl ?_
  first | refine q_31E rfl (by decide) h57 ?_ | refine q_31 rfl (by decide) ?_
  first | refine q_neN0 (by omega) (fun hh => ?_) (fun hh => absurd hh (by omega)) | refine q_neI0 (fun hh => ?_) (fun hh => absurd (by omega) hh)
  refine q_5 rfl ?_
  refine q_5 rfl ?_
  first | refine q_31E rfl (by decide) h58 ?_ | refine q_31 rfl (by decide) ?_
  refine q_34 rfl (by decide) ?_
  refine q_5 rfl ?_
  refine q_5 rfl ?_
  first | refine q_31E rfl (by decide) h59 ?_ | refine q_31 rfl (by decide) ?_
  refine q_34 rfl (by decide) ?_
  refine q_0 ?_
  refine q_6 rfl rfl rfl ?_
  exact L32 0 (by omega) _ ((Eqf.rf.up rfl).up rfl) rfl rfl (fun j hj => absurd hj (by omega))
theorem s_281F (hS : MS A I L) (hk : A.kp = none) (k : kM Q I L P 0 (.int (nI 0))) : mj_ev (d + 12) 281 [.ref 73] (107, I, L, P) Q := by
  refine ⟨rfl, ?_⟩
  have hkp := hS.i0.2.2.1
  rw [hk] at hkp
  have h57 : I0 I 73 57 = nI 0 := hkp
  show mj_run (mj_ev (d + 11)) k281 Q (k281 0) [some (.ref 73), none] [] (107, I, L, P) 0 0
  refine q_5 rfl ?_
  refine q_0 ?_
  refine q_34 rfl (by decide) ?_
  refine q_5 rfl ?_
  first | refine q_31E rfl (by decide) h57 ?_ | refine q_31 rfl (by decide) ?_
  first | refine q_neN0 (by omega) (fun hh => absurd hh (by omega)) (fun hh => ?_) | refine q_neI0 (fun hh => absurd hh (by omega)) (fun hh => ?_)
  refine q_0 ?_
  refine q_27 (by first | exact Or.inl rfl | exact Or.inr rfl | assumption | (split <;> first | exact Or.inl rfl | exact Or.inr rfl)) ?_
  exact k.fin Eqf.rf rfl
theorem s_168 {x : Int32} (hP : PS t P) (hS : MS A I L) (htd : A.td + 4 ≤ 700) (k : ∀ I', Eqf (frm [79] [(73, 10)]) I I' → MS (A.lay x) I' L → Q (.inl none) (107, I', L, P)) : mj_ev (d + 1) 168 [.ref 73, .int x] (107, I, L, P) Q := by
  refine ⟨rfl, ?_⟩
  obtain ⟨h1, h2, h3, h4, h5, h6, h7, h8, h9, h10, h11⟩ := hS
  have L4 : ∀ I', Eqf (frm [79] [(73, 10)]) I I' → I' 73 10 = nI (A.td + 4) → (∀ j, j < A.td → I' 79 j = I 79 j) → (∀ j, j < 4 → I' 79 (A.td + j) = nI (byt x (24 - 8 * j))) → mj_run (mj_ev d) k168 Q (k168 3) [some (.ref 73), some (.int x), some (.int (nI 0 - nI 8))] [] (107, I', L, P) 0 0 := by
    intro I' e g1 g2 g3
    have x89 : I' 89 = I 89 := funext fun j => e 89 j rfl
    have x90 : I' 90 = I 90 := funext fun j => e 90 j rfl
    have x100 : I' 100 = I 100 := funext fun j => e 100 j rfl
    have x103 : I' 103 = I 103 := funext fun j => e 103 j rfl
    have x104 : I' 104 = I 104 := funext fun j => e 104 j rfl
    have x105 : I' 105 = I 105 := funext fun j => e 105 j rfl
    refine q_3 rfl ?_
    refine q_ltI0 (fun hh => ?_) (fun hh => absurd (by decide) hh)
    refine q_25 ?_
    refine k I' e ⟨h1.fr e (fun _ => ⟨rfl, rfl, rfl, rfl, rfl, rfl, rfl, rfl⟩), ?_, ?_, g1, htd, fun j hj => ?_, (e 73 12 rfl).trans h7, h8, fun j hj => (e 80 j rfl).trans (h9 j hj), (e 94 0 rfl).trans h10, h11⟩
    · rw [x89, x90, x100, e 73 40 rfl, e 73 52 rfl]
      exact h2
    · rw [e 73 57 rfl, e 73 58 rfl, e 73 59 rfl, x103, x104, x105]
      exact h3
    · show I' 79 j = nI (if j < A.td then A.tp j else byt x (24 - 8 * (j - A.td))) ∧ (if j < A.td then A.tp j else byt x (24 - 8 * (j - A.td))) < 256
      have hj' : j < A.td + 4 := hj
      by_cases q : j < A.td
      · rw [if_pos q, g2 j q]
        exact h6 j q
      · rw [if_neg q]
        have := g3 (j - A.td) (by omega)
        rw [show A.td + (j - A.td) = j by omega] at this
        exact ⟨this, Nat.mod_lt _ (by decide)⟩
  have step : ∀ i, i < 4 → (∀ I', Eqf (frm [79] [(73, 10)]) I I' → I' 73 10 = nI (A.td + (i + 1)) → (∀ j, j < A.td → I' 79 j = I 79 j) → (∀ j, j < i + 1 → I' 79 (A.td + j) = nI (byt x (24 - 8 * j))) → mj_run (mj_ev d) k168 Q (k168 3) [some (.ref 73), some (.int x), some (.int (nI (24 - 8 * i) - nI 8))] [] (107, I', L, P) 0 0) → ∀ I', Eqf (frm [79] [(73, 10)]) I I' → I' 73 10 = nI (A.td + i) → (∀ j, j < A.td → I' 79 j = I 79 j) → (∀ j, j < i → I' 79 (A.td + j) = nI (byt x (24 - 8 * j))) → mj_run (mj_ev d) k168 Q (k168 3) [some (.ref 73), some (.int x), some (.int (nI (24 - 8 * i)))] [] (107, I', L, P) 0 0 := by
    intro i hi K I' e g1 g2 g3
    refine q_3 rfl ?_
    first | refine q_ltN0 (by omega) ?_ | refine q_ltI0 (fun hh => absurd hh (by omega)) (fun hh => ?_)
    refine q_5 rfl ?_
    refine q_33 rfl (by decide) (hP _ _ _ rfl) ?_
    refine q_5 rfl ?_
    first | refine q_31E rfl (by decide) g1 ?_ | refine q_31 rfl (by decide) ?_
    refine q_3 rfl ?_
    refine q_3 rfl ?_
    refine q_11 rfl ?_
    refine q_0 ?_
    refine q_11 rfl ?_
    rw [byt_and]
    refine q_42 _ rfl (by decide) rfl (by show _ < 700; omega) (by decide) ?_
    refine q_5 rfl ?_
    refine q_18 rfl ?_
    first | refine q_31E rfl (by decide) g1 ?_ | refine q_31 rfl (by decide) ?_
    refine q_0 ?_
    first | refine q_add ?_ | refine q_11 rfl ?_
    refine q_34 rfl (by decide) ?_
    refine q_10 rfl rfl rfl ?_
    refine q_23 ?_
    refine K _ ((e.up rfl).up rfl) (by rw [← Nat.add_assoc]; exact upI_s) (fun j hj => ?_) (fun j hj => ?_)
    · rw [upI_c (by decide), upI_j (by omega)]
      exact g2 j hj
    · rw [upI_c (by decide)]
      by_cases q : j = i
      · subst q
        exact upI_s
      · rw [upI_j (by omega)]
        exact g3 j (by omega)
  have L3 := step 3 (by omega) L4
  have L2 := step 2 (by omega) L3
  have L1 := step 1 (by omega) L2
  have L0 := step 0 (by omega) L1
  show mj_run (mj_ev d) k168 Q (k168 0) [some (.ref 73), some (.int x), none] [] (107, I, L, P) 0 0
  refine q_0 ?_
  refine q_6 rfl rfl rfl ?_
  exact L0 I Eqf.rf h4 (fun _ _ => rfl) (fun j hj => absurd hj (by omega))
theorem s_167 {x1 x2 x3 x4 x5 : Int32} (hP : PS t P) (hS : MS A I L) (htd : A.td ≤ 680) (k : kW Q I L P (((((A.lay x1).lay x2).lay x3).lay x4).lay x5) 0 (some (.int (nI (A.td + 20))))) : mj_ev (d + 12) 167 [.ref 73, .int x1, .int x2, .int x3, .int x4, .int x5] (107, I, L, P) Q := by
  refine ⟨rfl, ?_⟩
  have hS0 := hS.i0
  have h10 : I0 I 73 10 = nI A.td := hS0.2.2.2.1
  show mj_run (mj_ev (d + 11)) k167 Q (k167 0) [some (.ref 73), some (.int x1), some (.int x2), some (.int x3), some (.int x4), some (.int x5)] [] (107, I, L, P) 0 0
  refine q_5 rfl ?_
  refine q_0 ?_
  refine q_34 rfl (by decide) ?_
  refine q_5 rfl ?_
  first | refine q_31E rfl (by decide) h10 ?_ | refine q_31E rfl (by decide) hfin ?_ | refine q_31 rfl (by decide) ?_
  refine q_0 ?_
  first | refine q_add ?_ | refine q_11 rfl ?_
  refine q_0 ?_
  refine q_leN (by omega) (by omega) (fun hh => ?_) (fun hh => absurd hh (by omega))
  refine q_5 rfl ?_
  refine q_3 rfl ?_
  refine q_47 (mj_ev_mono _) [_] rfl rfl rfl (by decide) rfl rfl rfl ?_
  refine s_168 hP hS0 (by omega) (fun I1 e1 hS1 => ?_)
  refine q_5 rfl ?_
  refine q_3 rfl ?_
  refine q_47 (mj_ev_mono _) [_] rfl rfl rfl (by decide) rfl rfl rfl ?_
  refine s_168 hP hS1 (show A.td + 4 + 4 ≤ 700 by omega) (fun I2 e2 hS2 => ?_)
  refine q_5 rfl ?_
  refine q_3 rfl ?_
  refine q_47 (mj_ev_mono _) [_] rfl rfl rfl (by decide) rfl rfl rfl ?_
  refine s_168 hP hS2 (show A.td + 4 + 4 + 4 ≤ 700 by omega) (fun I3 e3 hS3 => ?_)
  refine q_5 rfl ?_
  refine q_3 rfl ?_
  refine q_47 (mj_ev_mono _) [_] rfl rfl rfl (by decide) rfl rfl rfl ?_
  refine s_168 hP hS3 (show A.td + 4 + 4 + 4 + 4 ≤ 700 by omega) (fun I4 e4 hS4 => ?_)
  refine q_5 rfl ?_
  refine q_3 rfl ?_
  refine q_47 (mj_ev_mono _) [_] rfl rfl rfl (by decide) rfl rfl rfl ?_
  refine s_168 hP hS4 (show A.td + 4 + 4 + 4 + 4 + 4 ≤ 700 by omega) (fun I5 e5 hS5 => ?_)
  have hfin : I5 73 10 = nI (A.td + 20) := hS5.2.2.2.1
  have E := (((e1.tr e2).tr e3).tr e4).tr e5
  refine q_5 rfl ?_
  first | refine q_31E rfl (by decide) h10 ?_ | refine q_31E rfl (by decide) hfin ?_ | refine q_31 rfl (by decide) ?_
  refine q_26 ?_
  exact k I5 L hS5 (fun c j hc => by rw [E c j (by unfold frm; simp; omega)]; exact I0_fm c j (FM_lo hc)) (fun _ _ _ => rfl) ((E 73 0 rfl).trans I0_th)
theorem s_167F {x1 x2 x3 x4 x5 : Int32} (hS : MS A I L) (htd : 680 < A.td) (k : kM Q I L P 0 (.int (-(nI 1)))) : mj_ev (d + 12) 167 [.ref 73, .int x1, .int x2, .int x3, .int x4, .int x5] (107, I, L, P) Q := by
  refine ⟨rfl, ?_⟩
  have hS0 := hS.i0
  have h10 : I0 I 73 10 = nI A.td := hS0.2.2.2.1
  have h7 : A.td ≤ 700 := hS0.2.2.2.2.1
  show mj_run (mj_ev (d + 11)) k167 Q (k167 0) [some (.ref 73), some (.int x1), some (.int x2), some (.int x3), some (.int x4), some (.int x5)] [] (107, I, L, P) 0 0
  refine q_5 rfl ?_
  refine q_0 ?_
  refine q_34 rfl (by decide) ?_
  refine q_5 rfl ?_
  first | refine q_31E rfl (by decide) h10 ?_ | refine q_31 rfl (by decide) ?_
  refine q_0 ?_
  first | refine q_add ?_ | refine q_11 rfl ?_
  refine q_0 ?_
  refine q_leN (by omega) (by omega) (fun hh => absurd hh (by omega)) (fun hh => ?_)
  refine q_1 ?_
  refine q_26 ?_
  exact k.fin Eqf.rf rfl
end M
