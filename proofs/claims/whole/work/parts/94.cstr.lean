/-! the class's two texts: charAt, indexOf -/
theorem txt1_len : (mj_txt 1).length = 152 := by decide +kernel
theorem un1 : ∀ x, x < 128 → mj_un 1 (nI x) = some (nI x) := by decide +kernel
theorem un2 : ∀ x, x < 128 → mj_un 2 (nI x) = some (nI x) := by decide +kernel
theorem chr_ok : ∀ x, x < 128 → narrow .char (.int (nI x)) = .int (nI x) := by decide +kernel
theorem wT_lt : ∀ i, i < 152 → wT i < 128 := by decide +kernel
theorem wT_and : ∀ i, i < 152 → (wT i &&& 255) = wT i := by decide +kernel
def sgT (i : Nat) : Nat := (mj_txt 0).getD i 0
theorem sgT_lt : ∀ i, i < 9 → sgT i < 128 := by decide +kernel
theorem sgT_is {x : Nat} : isSg x = true ↔ ∃ i, i < 9 ∧ sgT i = x := by
  rw [isSg_iff]
  constructor
  · intro h
    rcases h with rfl | rfl | rfl | rfl | rfl | rfl | rfl | rfl | rfl
    · exact ⟨0, by omega, rfl⟩
    · exact ⟨1, by omega, rfl⟩
    · exact ⟨2, by omega, rfl⟩
    · exact ⟨3, by omega, rfl⟩
    · exact ⟨4, by omega, rfl⟩
    · exact ⟨5, by omega, rfl⟩
    · exact ⟨6, by omega, rfl⟩
    · exact ⟨7, by omega, rfl⟩
    · exact ⟨8, by omega, rfl⟩
  · rintro ⟨i, hi, rfl⟩
    have : ∀ i, i < 9 → sgT i = 59 ∨ sgT i = 40 ∨ sgT i = 41 ∨ sgT i = 43 ∨ sgT i = 45 ∨ sgT i = 42 ∨ sgT i = 47 ∨ sgT i = 60 ∨ sgT i = 61 := by decide +kernel
    exact this i hi
section C
variable {I : mj_I} {L : mj_L} {P : mj_P} {Q : mj_Q} {d c x i : Nat}
theorem c_284 (hc : c < 2) (k : Q (.inl (some (.int (nI 1)))) (107, I, L, P)) : mj_ev (d + 1) 284 [.retAddr c] (107, I, L, P) Q := by
  refine ⟨rfl, ?_⟩
  show mj_run (mj_ev d) k284 Q (k284 0) [some (.retAddr c)] [] (107, I, L, P) 0 0
  refine q_58 ?_
  refine q_eqI0 (fun z => absurd z (by decide)) (fun _ => ?_)
  refine q_63 rfl ?_
  refine q_57 (by omega) ?_
  refine q_neI0 (fun z => absurd rfl z) (fun _ => ?_)
  refine q_0 ?_
  refine q_23 ?_
  refine q_27 (by first | exact Or.inl rfl | exact Or.inr rfl | assumption | (split <;> first | exact Or.inl rfl | exact Or.inr rfl)) ?_
  exact k
theorem c_291 (hc : c < 2) (k : Q (.inl (some (.int (nI 0)))) (107, I, L, P)) : mj_ev (d + 1) 291 [.retAddr c] (107, I, L, P) Q := by
  refine ⟨rfl, ?_⟩
  show mj_run (mj_ev d) k291 Q (k291 0) [some (.retAddr c)] [] (107, I, L, P) 0 0
  refine q_58 ?_
  refine q_eqI0 (fun z => absurd z (by decide)) (fun _ => ?_)
  refine q_63 rfl ?_
  refine q_57 (by omega) ?_
  refine q_23 ?_
  refine q_65 (by decide) ?_
  exact k
theorem c_290 (k : Q (.inl (some (.int (nI 9)))) (107, I, L, P)) : mj_ev (d + 2) 290 [.retAddr 0] (107, I, L, P) Q := by
  refine ⟨rfl, ?_⟩
  show mj_run (mj_ev (d + 1)) k290 Q (k290 0) [some (.retAddr 0)] [] (107, I, L, P) 0 0
  refine q_63 rfl ?_
  refine q_56 (by omega) ?_
  refine q_60 (by omega) ?_
  refine q_63 rfl ?_
  refine q_62 (mj_ev_mono _) [] rfl (by omega) rfl rfl rfl rfl ?_
  refine c_291 (by omega) ?_
  refine q_11 rfl ?_
  refine q_26 ?_
  exact k
theorem c_287 {l : Nat} {z : Nat} (hi : i < l) (hl : l < 2 ^ 31) (k : Q (.inl (some (.int (nI i)))) (107, I, L, P)) : mj_ev (d + 1) 287 [.int (nI i), .int (nI l), .retAddr z] (107, I, L, P) Q := by
  refine ⟨rfl, ?_⟩
  show mj_run (mj_ev d) k287 Q (k287 0) [some (.int (nI i)), some (.int (nI l)), some (.retAddr z)] [] (107, I, L, P) 0 0
  refine q_3 rfl ?_
  first | refine q_ltN0 (by omega) ?_ | refine q_ltI0 (fun hh => absurd hh (by omega)) (fun hh => ?_)
  refine q_3 rfl ?_
  refine q_3 rfl ?_
  refine q_ltN (by omega) (by omega) (fun hh => ?_) (fun hh => absurd hh (by omega))
  refine q_3 rfl ?_
  refine q_26 ?_
  exact k
theorem c_286 {l : Nat} (hi : i < l) (hl : l < 2 ^ 31) (k : Q (.inl none) (107, I, L, P)) : mj_ev (d + 2) 286 [.int (nI i), .int (nI l)] (107, I, L, P) Q := by
  refine ⟨rfl, ?_⟩
  show mj_run (mj_ev (d + 1)) k286 Q (k286 0) [some (.int (nI i)), some (.int (nI l))] [] (107, I, L, P) 0 0
  refine q_3 rfl ?_
  refine q_3 rfl ?_
  refine q_59 ?_
  refine q_48 (mj_ev_mono _) [_, _, _] rfl rfl rfl rfl rfl ?_
  refine c_287 hi hl ?_
  refine q_19 rfl ?_
  refine q_25 ?_
  exact k
theorem c_285 (hi : i < 152) (k : Q (.inl (some (.int (nI (wT i))))) (107, I, L, P)) : mj_ev (d + 3) 285 [.retAddr 3, .int (nI i)] (107, I, L, P) Q := by
  refine ⟨rfl, ?_⟩
  have h1 := wT_lt i hi
  have h2 := wT_and i hi
  have e : (mj_txt 1).getD (nI i).toNatClampNeg 0 = wT i := by
    unfold wT
    rw [nI_clamp (by omega)]
  show mj_run (mj_ev (d + 2)) k285 Q (k285 0) [some (.retAddr (2 + 1)), some (.int (nI i))] [] (107, I, L, P) 0 0
  refine q_3 rfl ?_
  refine q_63 rfl ?_
  refine q_60 (by omega) ?_
  refine q_48 (mj_ev_mono _) [_, _] rfl rfl rfl rfl rfl ?_
  refine c_286 (l := 152) hi (by omega) ?_
  refine q_63 rfl ?_
  refine q_3 rfl ?_
  refine q_61 (by omega) (vp_in_nI (by rw [txt1_len]; exact hi) (by rw [txt1_len]; decide)) ?_
  rw [e]
  refine q_0 ?_
  first | refine q_andN ?_ | refine q_11 rfl ?_
  rw [h2]
  refine q_12 (un2 _ h1) ?_
  refine q_64 (chr_ok _ h1) ?_
  exact k
theorem c_283 (hi : i < 152) (k : Q (.inl (some (.int (nI (wT i))))) (107, I, L, P)) : mj_ev (d + 4) 283 [.retAddr 1, .int (nI i)] (107, I, L, P) Q := by
  refine ⟨rfl, ?_⟩
  have h1 := wT_lt i hi
  show mj_run (mj_ev (d + 3)) k283 Q (k283 0) [some (.retAddr 1), some (.int (nI i))] [] (107, I, L, P) 0 0
  refine q_63 rfl ?_
  refine q_62 (mj_ev_mono _) [] rfl (by omega) rfl rfl rfl rfl ?_
  refine c_284 (by omega) ?_
  first | refine q_eqN0 (by omega) (fun hh => absurd hh (by omega)) (fun hh => ?_) | refine q_eqI0 (fun hh => absurd hh (by omega)) (fun hh => ?_)
  refine q_63 rfl ?_
  refine q_56 (by omega) ?_
  refine q_3 rfl ?_
  refine q_48 (mj_ev_mono _) [_, _] rfl rfl rfl rfl rfl ?_
  refine c_285 hi ?_
  refine q_64 (chr_ok _ h1) ?_
  exact k
theorem c_294 (hx : x < 128) (k : Q (.inl (some (.int (nI 1)))) (107, I, L, P)) : mj_ev (d + 1) 294 [.int (nI x)] (107, I, L, P) Q := by
  refine ⟨rfl, ?_⟩
  show mj_run (mj_ev d) k294 Q (k294 0) [some (.int (nI x))] [] (107, I, L, P) 0 0
  refine q_3 rfl ?_
  first | refine q_ltN0 (by omega) ?_ | refine q_ltI0 (fun hh => absurd hh (by omega)) (fun hh => ?_)
  refine q_3 rfl ?_
  refine q_0 ?_
  refine q_gtN (by omega) (by omega) (fun hh => absurd hh (by omega)) (fun hh => ?_)
  refine q_0 ?_
  refine q_23 ?_
  refine q_27 (by first | exact Or.inl rfl | exact Or.inr rfl | assumption | (split <;> first | exact Or.inl rfl | exact Or.inr rfl)) ?_
  exact k
theorem c_293 (hx : x < 128) (kT : isSg x = true → ∀ i, i < 9 → Q (.inl (some (.int (nI i)))) (107, I, L, P)) (kF : isSg x = false → Q (.inl (some (.int (-(nI 1))))) (107, I, L, P)) : mj_ev (d + 1) 293 [.retAddr 2, .int (nI x), .int (nI 0), .int (nI 9)] (107, I, L, P) Q := by
  refine ⟨rfl, ?_⟩
  have L7 : ∀ i, i ≤ 9 → (∀ q, q < i → sgT q ≠ x) → mj_run (mj_ev d) k293 Q (k293 7) [some (.retAddr (2 + 0)), some (.int (nI x)), some (.int (nI 0)), some (.int (nI 9)), some (.int (nI x)), some (.int (nI i))] [] (107, I, L, P) 0 0 := by
    refine loop_up ?_ (fun i hi ih => ?_)
    · intro h
      have : isSg x = false := by
        cases e : isSg x with
        | false => rfl
        | true =>
          obtain ⟨q, hq, e2⟩ := sgT_is.mp e
          exact absurd e2 (h q hq)
      refine q_3 rfl ?_
      refine q_3 rfl ?_
      refine q_geN (by omega) (by omega) (fun hh => ?_) (fun hh => absurd hh (by omega))
      refine q_1 ?_
      refine q_26 ?_
      exact kF this
    · intro h
      have s1 := sgT_lt i hi
      have e : (mj_txt 0).getD (nI i).toNatClampNeg 0 = sgT i := by
        unfold sgT
        rw [nI_clamp (by omega)]
      by_cases c : sgT i = x
      · refine q_3 rfl ?_
        refine q_3 rfl ?_
        refine q_geN (by omega) (by omega) (fun hh => absurd hh (by omega)) (fun hh => ?_)
        refine q_63 rfl ?_
        refine q_3 rfl ?_
        refine q_61 (by omega) (vp_in_nI (by show i < 9; omega) (by decide)) ?_
        rw [e]
        refine q_3 rfl ?_
        refine q_neN (by omega) (by omega) (fun hh => absurd hh (by omega)) (fun hh => ?_)
        refine q_3 rfl ?_
        refine q_26 ?_
        exact kT (sgT_is.mpr ⟨i, hi, c⟩) i hi
      · refine q_3 rfl ?_
        refine q_3 rfl ?_
        refine q_geN (by omega) (by omega) (fun hh => absurd hh (by omega)) (fun hh => ?_)
        refine q_63 rfl ?_
        refine q_3 rfl ?_
        refine q_61 (by omega) (vp_in_nI (by show i < 9; omega) (by decide)) ?_
        rw [e]
        refine q_3 rfl ?_
        refine q_neN (by omega) (by omega) (fun hh => ?_) (fun hh => absurd hh (by omega))
        first | refine q_inc rfl rfl rfl ?_ | refine q_9 rfl rfl rfl ?_
        refine q_23 ?_
        refine ih (fun q hq => ?_)
        by_cases z : q = i
        · rw [z]; exact c
        · exact h q (by omega)
  show mj_run (mj_ev d) k293 Q (k293 0) [some (.retAddr 2), some (.int (nI x)), some (.int (nI 0)), some (.int (nI 9)), none, none] [] (107, I, L, P) 0 0
  refine q_3 rfl ?_
  refine q_12 (un1 _ hx) ?_
  refine q_6 rfl rfl rfl ?_
  refine q_3 rfl ?_
  refine q_6 rfl rfl rfl ?_
  exact L7 0 (by omega) (fun q hq => absurd hq (by omega))
theorem c_292 (hx : x < 128) (kT : isSg x = true → ∀ i, i < 9 → Q (.inl (some (.int (nI i)))) (107, I, L, P)) (kF : isSg x = false → Q (.inl (some (.int (-(nI 1))))) (107, I, L, P)) : mj_ev (d + 2) 292 [.retAddr 2, .int (nI x), .int (nI 0), .int (nI 9)] (107, I, L, P) Q := by
  refine ⟨rfl, ?_⟩
  show mj_run (mj_ev (d + 1)) k292 Q (k292 0) [some (.retAddr (2 + 0)), some (.int (nI x)), some (.int (nI 0)), some (.int (nI 9))] [] (107, I, L, P) 0 0
  refine q_3 rfl ?_
  refine q_48 (mj_ev_mono _) [_] rfl rfl rfl rfl rfl ?_
  refine c_294 hx ?_
  first | refine q_neN0 (by omega) (fun hh => ?_) (fun hh => absurd hh (by omega)) | refine q_neI0 (fun hh => ?_) (fun hh => absurd (by omega) hh)
  refine q_3 rfl ?_
  refine q_0 ?_
  refine q_70 rfl ?_
  rw [if_neg (by decide)]
  refine q_6 rfl rfl rfl ?_
  refine q_3 rfl ?_
  refine q_63 rfl ?_
  refine q_60 (by omega) ?_
  refine q_71 rfl ?_
  rw [show (nI (mj_txt 0).length) = nI 9 from rfl, if_neg (by decide)]
  refine q_6 rfl rfl rfl ?_
  refine q_3 rfl ?_
  refine q_3 rfl ?_
  refine q_ltN (by omega) (by omega) (fun hh => ?_) (fun hh => absurd hh (by omega))
  refine q_63 rfl ?_
  refine q_3 rfl ?_
  refine q_3 rfl ?_
  refine q_3 rfl ?_
  refine q_48 (mj_ev_mono _) [_, _, _, _] rfl rfl rfl rfl rfl ?_
  refine c_293 hx (fun h i hi => ?_) (fun h => ?_)
  · refine q_26 ?_
    exact kT h i hi
  · refine q_26 ?_
    exact kF h
theorem c_289 (hx : x < 128) (kT : isSg x = true → ∀ i, i < 9 → Q (.inl (some (.int (nI i)))) (107, I, L, P)) (kF : isSg x = false → Q (.inl (some (.int (-(nI 1))))) (107, I, L, P)) : mj_ev (d + 3) 289 [.retAddr 0, .int (nI x), .int (nI 0)] (107, I, L, P) Q := by
  refine ⟨rfl, ?_⟩
  show mj_run (mj_ev (d + 2)) k289 Q (k289 0) [some (.retAddr 0), some (.int (nI x)), some (.int (nI 0))] [] (107, I, L, P) 0 0
  refine q_63 rfl ?_
  refine q_62 (mj_ev_mono _) [] rfl (by omega) rfl rfl rfl rfl ?_
  refine c_284 (by omega) ?_
  first | refine q_eqN0 (by omega) (fun hh => absurd hh (by omega)) (fun hh => ?_) | refine q_eqI0 (fun hh => absurd hh (by omega)) (fun hh => ?_)
  refine q_63 rfl ?_
  refine q_56 (by omega) ?_
  refine q_3 rfl ?_
  refine q_3 rfl ?_
  refine q_63 rfl ?_
  refine q_62 (mj_ev_mono _) [] rfl (by omega) rfl rfl rfl rfl ?_
  refine c_290 ?_
  refine q_48 (mj_ev_mono _) [_, _, _, _] rfl rfl rfl rfl rfl ?_
  refine c_292 hx (fun h i hi => ?_) (fun h => ?_)
  · refine q_23 ?_
    refine q_26 ?_
    exact kT h i hi
  · refine q_23 ?_
    refine q_26 ?_
    exact kF h
theorem c_288 (hx : x < 128) (kT : isSg x = true → ∀ i, i < 9 → Q (.inl (some (.int (nI i)))) (107, I, L, P)) (kF : isSg x = false → Q (.inl (some (.int (-(nI 1))))) (107, I, L, P)) : mj_ev (d + 4) 288 [.retAddr 0, .int (nI x)] (107, I, L, P) Q := by
  refine ⟨rfl, ?_⟩
  show mj_run (mj_ev (d + 3)) k288 Q (k288 0) [some (.retAddr 0), some (.int (nI x))] [] (107, I, L, P) 0 0
  refine q_63 rfl ?_
  refine q_3 rfl ?_
  refine q_0 ?_
  refine q_62 (mj_ev_mono _) [_, _] rfl (by omega) rfl rfl rfl rfl ?_
  refine c_289 hx (fun h i hi => ?_) (fun h => ?_)
  · refine q_26 ?_
    exact kT h i hi
  · refine q_26 ?_
    exact kF h
end C
