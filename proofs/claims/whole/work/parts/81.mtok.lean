/-! the model's tokens -/
def MB (b : Nat → Nat) (n : Nat) (I : mj_I) : Prop := (∀ i, i < n → I 79 i = nI (b i) ∧ b i < 256) ∧ n ≤ 700 ∧ I 73 14 = nI n
def TM (b : Nat → Nat) (n j : Nat) (I : mj_I) (L : mj_L) : Prop := I 73 15 = nI (tkp b n (j + 1)) ∧ I 73 16 = nI (srt (tK b n j)) ∧ I 73 17 = nI (tB b n j) ∧ I 73 18 = nI (tD b n j) ∧ (tK b n j = 20 → I 73 19 = nI (tV b n j)) ∧ (40 ≤ tK b n j → I 73 20 = nI (tK b n j)) ∧ (tK b n j ≤ 19 → L 73 21 = lN (cod (fun i => b (tB b n j + i) - 96) (min7 (tD b n j))))
def tkF : List (Nat × Nat) := [(73, 15), (73, 16), (73, 17), (73, 18), (73, 19), (73, 20)]
theorem MB.fr {b : Nat → Nat} {n : Nat} {I I' : mj_I} (h : MB b n I) (e1 : ∀ j, I' 79 j = I 79 j) (e2 : I' 73 14 = I 73 14) : MB b n I' := ⟨fun i hi => ⟨(e1 i).trans (h.1 i hi).1, (h.1 i hi).2⟩, h.2.1, e2.trans h.2.2⟩
theorem shl5 {v x : Nat} (hv : v < 2 ^ 40) (hx : x < 32) : lN v <<< ((nI 5).toInt64 &&& 63) ||| lN x = lN (32 * v + x) := by
  apply Int64.toBitVec_inj.mp
  apply BitVec.eq_of_toNat_eq
  have e4 : ((nI 5).toInt64 &&& 63) = 5 := by decide
  have t : ∀ y : Nat, y < 2 ^ 64 → (lN y).toBitVec.toNat = y := fun y hy => Nat.mod_eq_of_lt hy
  rw [e4, Int64.toBitVec_or, BitVec.toNat_or, Int64.toBitVec_shiftLeft, t x (by omega), t _ (by omega)]
  have e5 : ((5 : Int64).toBitVec.smod 64) = 5 := by decide
  rw [e5]
  rw [BitVec.shiftLeft_eq', BitVec.toNat_shiftLeft, t v (by omega)]
  rw [show (5 : BitVec 64).toNat = 5 from rfl, Nat.shiftLeft_eq, Nat.mod_eq_of_lt (by omega)]
  have := Nat.two_pow_add_eq_or_of_lt (i := 5) (b := x) (by omega) v
  rw [← Nat.mul_comm (2 ^ 5) v, ← this]
def bAt (b : Nat → Nat) (n k : Nat) : Nat := if k < n then b k else 0
section M
variable {I : mj_I} {L : mj_L} {P : mj_P} {Q : mj_Q} {d n r t j : Nat} {b : Nat → Nat}
theorem s_169 {i : Nat} (hP : PS t P) (hB : MB b n I) (hi : i ≤ 700) (k : Q (.inl (some (.int (nI (bAt b n i))))) (107, I, L, P)) : mj_ev (d + 1) 169 [.ref 73, .int (nI i)] (107, I, L, P) Q := by
  refine ⟨rfl, ?_⟩
  obtain ⟨h1, h2, h3⟩ := hB
  show mj_run (mj_ev d) k169 Q (k169 0) [some (.ref 73), some (.int (nI i))] [] (107, I, L, P) 0 0
  unfold bAt at k
  by_cases hn : i < n
  · rw [if_pos hn] at k
    have v1 := (h1 i hn).1
    refine q_3 rfl ?_
    refine q_5 rfl ?_
    first | refine q_31E rfl (by decide) h3 ?_ | refine q_31 rfl (by decide) ?_
    refine q_geN (by omega) (by omega) (fun hh => absurd hh (by omega)) (fun hh => ?_)
    refine q_5 rfl ?_
    refine q_33 rfl (by decide) (hP _ _ _ rfl) ?_
    refine q_3 rfl ?_
    first | refine q_38E _ rfl (by decide) rfl (by show _ < 700; omega) (by decide) (v1) ?_ | refine q_38 _ rfl (by decide) rfl (by show _ < 700; omega) (by decide) ?_
    refine q_23 ?_
    refine q_26 ?_
    exact k
  · rw [if_neg hn] at k
    refine q_3 rfl ?_
    refine q_5 rfl ?_
    first | refine q_31E rfl (by decide) h3 ?_ | refine q_31 rfl (by decide) ?_
    refine q_geN (by omega) (by omega) (fun hh => ?_) (fun hh => absurd hh (by omega))
    refine q_0 ?_
    refine q_26 ?_
    exact k
theorem s_170 {x : Nat} (hx : x < 256) (k : Q (.inl (some (.int (nI (if isL x then 1 else 0))))) (107, I, L, P)) : mj_ev (d + 1) 170 [.int (nI x)] (107, I, L, P) Q := by
  refine ⟨rfl, ?_⟩
  show mj_run (mj_ev d) k170 Q (k170 0) [some (.int (nI x))] [] (107, I, L, P) 0 0
  by_cases h1 : x < 97
  · rw [if_neg (by rw [isL_iff]; omega)] at k
    refine q_3 rfl ?_
    refine q_0 ?_
    refine q_ltN (by omega) (by omega) (fun hh => ?_) (fun hh => absurd hh (by omega))
    refine q_0 ?_
    refine q_27 (by first | exact Or.inl rfl | exact Or.inr rfl | assumption | (split <;> first | exact Or.inl rfl | exact Or.inr rfl)) ?_
    exact k
  · by_cases h2 : 122 < x
    · rw [if_neg (by rw [isL_iff]; omega)] at k
      refine q_3 rfl ?_
      refine q_0 ?_
      refine q_ltN (by omega) (by omega) (fun hh => absurd hh (by omega)) (fun hh => ?_)
      refine q_3 rfl ?_
      refine q_0 ?_
      refine q_gtN (by omega) (by omega) (fun hh => ?_) (fun hh => absurd hh (by omega))
      refine q_0 ?_
      refine q_27 (by first | exact Or.inl rfl | exact Or.inr rfl | assumption | (split <;> first | exact Or.inl rfl | exact Or.inr rfl)) ?_
      exact k
    · rw [if_pos (by rw [isL_iff]; omega)] at k
      refine q_3 rfl ?_
      refine q_0 ?_
      refine q_ltN (by omega) (by omega) (fun hh => absurd hh (by omega)) (fun hh => ?_)
      refine q_3 rfl ?_
      refine q_0 ?_
      refine q_gtN (by omega) (by omega) (fun hh => absurd hh (by omega)) (fun hh => ?_)
      refine q_0 ?_
      refine q_23 ?_
      refine q_27 (by first | exact Or.inl rfl | exact Or.inr rfl | assumption | (split <;> first | exact Or.inl rfl | exact Or.inr rfl)) ?_
      exact k
theorem s_171 {x : Nat} (hx : x < 256) (k : Q (.inl (some (.int (nI (if isD x then 1 else 0))))) (107, I, L, P)) : mj_ev (d + 1) 171 [.int (nI x)] (107, I, L, P) Q := by
  refine ⟨rfl, ?_⟩
  show mj_run (mj_ev d) k171 Q (k171 0) [some (.int (nI x))] [] (107, I, L, P) 0 0
  by_cases h1 : x < 48
  · rw [if_neg (by rw [isD_iff]; omega)] at k
    refine q_3 rfl ?_
    refine q_0 ?_
    refine q_ltN (by omega) (by omega) (fun hh => ?_) (fun hh => absurd hh (by omega))
    refine q_0 ?_
    refine q_27 (by first | exact Or.inl rfl | exact Or.inr rfl | assumption | (split <;> first | exact Or.inl rfl | exact Or.inr rfl)) ?_
    exact k
  · by_cases h2 : 57 < x
    · rw [if_neg (by rw [isD_iff]; omega)] at k
      refine q_3 rfl ?_
      refine q_0 ?_
      refine q_ltN (by omega) (by omega) (fun hh => absurd hh (by omega)) (fun hh => ?_)
      refine q_3 rfl ?_
      refine q_0 ?_
      refine q_gtN (by omega) (by omega) (fun hh => ?_) (fun hh => absurd hh (by omega))
      refine q_0 ?_
      refine q_27 (by first | exact Or.inl rfl | exact Or.inr rfl | assumption | (split <;> first | exact Or.inl rfl | exact Or.inr rfl)) ?_
      exact k
    · rw [if_pos (by rw [isD_iff]; omega)] at k
      refine q_3 rfl ?_
      refine q_0 ?_
      refine q_ltN (by omega) (by omega) (fun hh => absurd hh (by omega)) (fun hh => ?_)
      refine q_3 rfl ?_
      refine q_0 ?_
      refine q_gtN (by omega) (by omega) (fun hh => absurd hh (by omega)) (fun hh => ?_)
      refine q_0 ?_
      refine q_23 ?_
      refine q_27 (by first | exact Or.inl rfl | exact Or.inr rfl | assumption | (split <;> first | exact Or.inl rfl | exact Or.inr rfl)) ?_
      exact k
theorem bAt_lt {i : Nat} (hB : MB b n I) : bAt b n i < 256 := by
  unfold bAt
  split
  · exact (hB.1 i (by assumption)).2
  · omega
theorem bAt_in {i : Nat} (h : i < n) : bAt b n i = b i := if_pos h
set_option maxHeartbeats 1000000 in
theorem s_172 (hP : PS t P) (hB : MB b n I) (h15 : I 73 15 = nI (tkp b n j)) (k : ∀ I' L', Eqf (frm [] tkF) I I' → EqL (frm [] [(73, 21)]) L L' → TM b n j I' L' → Q (.inl none) (107, I', L', P)) : mj_ev (d + 2) 172 [.ref 73] (107, I, L, P) Q := by
  refine ⟨rfl, ?_⟩
  have hn7 := hB.2.1
  have tp := tkp_le (b := b) (n := n) j
  obtain ⟨w1, w2, w3, w4⟩ := upTo_spec (q := fun i => isWs (b i)) tp
  have eB : upTo (fun i => isWs (b i)) n (tkp b n j) = tB b n j := rfl
  rw [eB] at w1 w2 w3 w4
  generalize hs : tB b n j = s at w1 w2 w3 w4
  have fB : ∀ {I' : mj_I}, Eqf (frm [] tkF) I I' → MB b n I' := fun e => hB.fr (fun i => e 79 i rfl) (e 73 14 rfl)
  have hsE : (tK b n j = knd1 b n s) := by unfold tK; rw [hs]
  have hsN : tkp b n (j + 1) = nx1 b n s := by rw [tkp_s, hs]
  -- the end: how long it is
  have S331 : ∀ I' L' e x1, s ≤ e → e ≤ 700 → Eqf (frm [] tkF) I I' → EqL (frm [] [(73, 21)]) L L' → I' 73 15 = nI e → I' 73 17 = nI s → I' 73 16 = nI (srt (knd1 b n s)) → nx1 b n s = e → (knd1 b n s = 20 → I' 73 19 = nI (dgv b s (min4 (e - s)))) → (40 ≤ knd1 b n s → I' 73 20 = nI (knd1 b n s)) → (knd1 b n s ≤ 19 → L' 73 21 = lN (cod (fun i => b (s + i) - 96) (min7 (e - s)))) → mj_run (mj_ev (d + 1)) k172 Q (k172 331) [some (.ref 73), x1] [] (107, I', L', P) 0 0 := by
    intro I' L' e x1 hse he E EL g15 g17 g16 gN g19 g20 g21
    have hD : tD b n j = e - s := by unfold tD; rw [hsN, gN, hs]
    refine q_5 rfl ?_
    refine q_5 rfl ?_
    first | refine q_31E rfl (by decide) g15 ?_ | refine q_31 rfl (by decide) ?_
    refine q_5 rfl ?_
    first | refine q_31E rfl (by decide) g17 ?_ | refine q_31 rfl (by decide) ?_
    first | refine q_sub (by omega) ?_ | refine q_11 rfl ?_
    refine q_34 rfl (by decide) ?_
    refine q_25 ?_
    refine k _ L' (E.up rfl) EL ⟨?_, ?_, ?_, ?_, fun q => ?_, fun q => ?_, fun q => ?_⟩
    · rw [upI_j (by decide), hsN, gN]; exact g15
    · rw [upI_j (by decide), hsE]; exact g16
    · rw [upI_j (by decide), hs]; exact g17
    · rw [upI_s, hD]
    · rw [upI_j (by decide)]; unfold tV; rw [hs, hD]; exact g19 (by rw [← hsE]; exact q)
    · rw [upI_j (by decide), hsE]; exact g20 (by rw [← hsE]; exact q)
    · rw [hs, hD]; exact g21 (by rw [← hsE]; exact q)
  -- letters
  have S108 : s < n → isL (b s) = true → ∀ i, i ≤ wnd b n s → s ≤ i → ∀ I' L' x1, Eqf (frm [] tkF) I I' → EqL (frm [] [(73, 21)]) L L' → I' 73 15 = nI i → I' 73 17 = nI s → L' 73 21 = lN (cod (fun i => b (s + i) - 96) (min7 (i - s))) → mj_run (mj_ev (d + 1)) k172 Q (k172 108) [some (.ref 73), x1] [] (107, I', L', P) 0 0 := by
    intro hsn hlet
    obtain ⟨e1, e2, e3, e4⟩ := upTo_spec (q := fun i => isL (b i)) w2
    have eW : upTo (fun i => isL (b i)) n s = wnd b n s := rfl
    rw [eW] at e1 e2 e3 e4
    have kk : knd1 b n s = kwd b s (wnd b n s - s) := by
      unfold knd1
      rw [if_neg (by omega), if_pos hlet]
    have k19 := kwd_le (b := b) (s := s) (l := wnd b n s - s)
    refine loop_up ?_ (fun i hi ih => ?_)
    · intro _ I' L' x1 E EL g15 g17 g21
      have hB' := fB E
      have bl := bAt_lt (b := b) (n := n) (i := wnd b n s) hB'
      have nl : isL (bAt b n (wnd b n s)) = false := by
        unfold bAt
        split
        · exact e4 (by assumption)
        · rfl
      refine q_5 rfl ?_
      refine q_5 rfl ?_
      first | refine q_31E rfl (by decide) g15 ?_ | refine q_31 rfl (by decide) ?_
      refine q_47 (mj_ev_mono _) [_] rfl rfl rfl (by decide) rfl rfl rfl ?_
      refine s_169 hP hB' (by omega) ?_
      refine q_48 (mj_ev_mono _) [_] rfl rfl rfl rfl rfl ?_
      refine s_170 bl ?_
      rw [nl, if_neg (by decide)]
      first | refine q_eqN0 (by omega) (fun hh => ?_) (fun hh => absurd hh (by omega)) | refine q_eqI0 (fun hh => ?_) (fun hh => absurd (by omega) hh)
      refine q_5 rfl ?_
      refine q_0 ?_
      refine q_34 rfl (by decide) ?_
      refine q_23 ?_
      exact S331 _ L' (wnd b n s) _ e1 (by omega) (E.up rfl) EL (by rw [upI_j (by decide)]; exact g15) (by rw [upI_j (by decide)]; exact g17) (by rw [upI_s, kk]; unfold srt; rw [if_neg (by omega), if_pos k19]) (by unfold nx1; rw [if_neg (by omega), if_pos hlet]) (fun q => absurd q (by omega)) (fun q => absurd q (by omega)) (fun _ => g21)
    · intro hsi I' L' x1 E EL g15 g17 g21
      have hB' := fB E
      have bi : bAt b n i = b i := bAt_in (by omega)
      have li : isL (b i) = true := e3 i hsi hi
      have li2 := isL_iff.mp li
      have m40 : cod (fun i => b (s + i) - 96) (min7 (i - s)) < 2 ^ 40 := by
        have h1 : min7 (i - s) ≤ 7 := by unfold min7; split <;> omega
        have h2 := cod_lt (f := fun i => b (s + i) - 96) (k := min7 (i - s)) (fun q hq => by
          have h3 : min7 (i - s) ≤ i - s := by unfold min7; split <;> omega
          have := isL_iff.mp (e3 (s + q) (by omega) (by omega))
          show b (s + q) - 96 < 32
          omega)
        exact Nat.lt_of_lt_of_le h2 (Nat.le_trans (Nat.pow_le_pow_right (by decide) h1) (by decide))
      by_cases h7 : i - s < 7
      · have e5 : 32 * cod (fun i => b (s + i) - 96) (min7 (i - s)) + (b i - 96) = cod (fun i => b (s + i) - 96) (min7 (i + 1 - s)) := by
          have q1 : min7 (i - s) = i - s := if_pos h7
          have q2 : min7 (i + 1 - s) = (i - s) + 1 := by unfold min7; split <;> omega
          rw [q1, q2]
          show _ = 32 * cod (fun i => b (s + i) - 96) (i - s) + (b (s + (i - s)) - 96)
          rw [show s + (i - s) = i by omega]
        refine q_5 rfl ?_
        refine q_5 rfl ?_
        first | refine q_31E rfl (by decide) g15 ?_ | refine q_31 rfl (by decide) ?_
        refine q_47 (mj_ev_mono _) [_] rfl rfl rfl (by decide) rfl rfl rfl ?_
        refine s_169 hP hB' (by omega) ?_
        rw [bi]
        refine q_48 (mj_ev_mono _) [_] rfl rfl rfl rfl rfl ?_
        refine s_170 (by omega) ?_
        rw [li, if_pos rfl]
        first | refine q_eqN0 (by omega) (fun hh => absurd hh (by omega)) (fun hh => ?_) | refine q_eqI0 (fun hh => absurd hh (by omega)) (fun hh => ?_)
        refine q_5 rfl ?_
        first | refine q_31E rfl (by decide) g15 ?_ | refine q_31 rfl (by decide) ?_
        refine q_5 rfl ?_
        first | refine q_31E rfl (by decide) g17 ?_ | refine q_31 rfl (by decide) ?_
        first | refine q_sub (by omega) ?_ | refine q_11 rfl ?_
        refine q_0 ?_
        refine q_geN (by omega) (by omega) (fun hh => absurd hh (by omega)) (fun hh => ?_)
        refine q_5 rfl ?_
        refine q_5 rfl ?_
        refine q_32 rfl (by decide) ?_
        rw [g21]
        refine q_0 ?_
        refine q_14 ?_
        refine q_5 rfl ?_
        refine q_5 rfl ?_
        first | refine q_31E rfl (by decide) g15 ?_ | refine q_31 rfl (by decide) ?_
        refine q_47 (mj_ev_mono _) [_] rfl rfl rfl (by decide) rfl rfl rfl ?_
        refine s_169 hP hB' (by omega) ?_
        rw [bi]
        refine q_0 ?_
        first | refine q_sub (by omega) ?_ | refine q_11 rfl ?_
        refine q_15 ?_
        rw [nI_l (by omega)]
        refine q_13 rfl ?_
        rw [shl5 m40 (by omega), e5]
        refine q_36 rfl (by decide) ?_
        refine q_5 rfl ?_
        refine q_18 rfl ?_
        first | refine q_31E rfl (by decide) g15 ?_ | refine q_31 rfl (by decide) ?_
        refine q_0 ?_
        first | refine q_add ?_ | refine q_11 rfl ?_
        refine q_34 rfl (by decide) ?_
        refine q_23 ?_
        exact ih (by omega) _ _ _ (E.up rfl) (EL.up rfl) upI_s (by rw [upI_j (by decide)]; exact g17) upL_s
      · have q2 : min7 (i + 1 - s) = min7 (i - s) := by unfold min7; rw [if_neg (by omega), if_neg (by omega)]
        refine q_5 rfl ?_
        refine q_5 rfl ?_
        first | refine q_31E rfl (by decide) g15 ?_ | refine q_31 rfl (by decide) ?_
        refine q_47 (mj_ev_mono _) [_] rfl rfl rfl (by decide) rfl rfl rfl ?_
        refine s_169 hP hB' (by omega) ?_
        rw [bi]
        refine q_48 (mj_ev_mono _) [_] rfl rfl rfl rfl rfl ?_
        refine s_170 (by omega) ?_
        rw [li, if_pos rfl]
        first | refine q_eqN0 (by omega) (fun hh => absurd hh (by omega)) (fun hh => ?_) | refine q_eqI0 (fun hh => absurd hh (by omega)) (fun hh => ?_)
        refine q_5 rfl ?_
        first | refine q_31E rfl (by decide) g15 ?_ | refine q_31 rfl (by decide) ?_
        refine q_5 rfl ?_
        first | refine q_31E rfl (by decide) g17 ?_ | refine q_31 rfl (by decide) ?_
        first | refine q_sub (by omega) ?_ | refine q_11 rfl ?_
        refine q_0 ?_
        refine q_geN (by omega) (by omega) (fun hh => ?_) (fun hh => absurd hh (by omega))
        refine q_5 rfl ?_
        refine q_18 rfl ?_
        first | refine q_31E rfl (by decide) g15 ?_ | refine q_31 rfl (by decide) ?_
        refine q_0 ?_
        first | refine q_add ?_ | refine q_11 rfl ?_
        refine q_34 rfl (by decide) ?_
        refine q_23 ?_
        exact ih (by omega) _ _ _ (E.up rfl) EL upI_s (by rw [upI_j (by decide)]; exact g17) (by rw [q2]; exact g21)
  -- digits
  have S187 : s < n → isL (b s) = false → isD (b s) = true → ∀ i, i ≤ dnd b n s → s ≤ i → ∀ I' L' x1, Eqf (frm [] tkF) I I' → EqL (frm [] [(73, 21)]) L L' → I' 73 15 = nI i → I' 73 17 = nI s → I' 73 19 = nI (dgv b s (min4 (i - s))) → mj_run (mj_ev (d + 1)) k172 Q (k172 187) [some (.ref 73), x1] [] (107, I', L', P) 0 0 := by
    intro hsn hlet hdig
    obtain ⟨e1, e2, e3, e4⟩ := upTo_spec (q := fun i => isD (b i)) w2
    have eW : upTo (fun i => isD (b i)) n s = dnd b n s := rfl
    rw [eW] at e1 e2 e3 e4
    have kk : knd1 b n s = 20 := by
      unfold knd1
      rw [if_neg (by omega), if_neg (by rw [hlet]; decide), if_pos hdig]
    refine loop_up ?_ (fun i hi ih => ?_)
    · intro _ I' L' x1 E EL g15 g17 g19
      have hB' := fB E
      have bl := bAt_lt (b := b) (n := n) (i := dnd b n s) hB'
      have nl : isD (bAt b n (dnd b n s)) = false := by
        unfold bAt
        split
        · exact e4 (by assumption)
        · rfl
      refine q_5 rfl ?_
      refine q_5 rfl ?_
      first | refine q_31E rfl (by decide) g15 ?_ | refine q_31 rfl (by decide) ?_
      refine q_47 (mj_ev_mono _) [_] rfl rfl rfl (by decide) rfl rfl rfl ?_
      refine s_169 hP hB' (by omega) ?_
      refine q_48 (mj_ev_mono _) [_] rfl rfl rfl rfl rfl ?_
      refine s_171 bl ?_
      rw [nl, if_neg (by decide)]
      first | refine q_eqN0 (by omega) (fun hh => ?_) (fun hh => absurd hh (by omega)) | refine q_eqI0 (fun hh => ?_) (fun hh => absurd (by omega) hh)
      refine q_5 rfl ?_
      refine q_0 ?_
      refine q_34 rfl (by decide) ?_
      refine q_23 ?_
      exact S331 _ L' (dnd b n s) _ e1 (by omega) (E.up rfl) EL (by rw [upI_j (by decide)]; exact g15) (by rw [upI_j (by decide)]; exact g17) (by rw [upI_s, kk]; rfl) (by unfold nx1; rw [if_neg (by omega), if_neg (by rw [hlet]; decide), if_pos hdig]) (fun _ => by rw [upI_j (by decide)]; exact g19) (fun q => absurd q (by omega)) (fun q => absurd q (by omega))
    · intro hsi I' L' x1 E EL g15 g17 g19
      have hB' := fB E
      have bi : bAt b n i = b i := bAt_in (by omega)
      have li : isD (b i) = true := e3 i hsi hi
      have li2 := isD_iff.mp li
      have m40 : dgv b s (min4 (i - s)) < 10000 := by
        have h1 : min4 (i - s) ≤ 4 := by unfold min4; split <;> omega
        have h2 := dgv_lt (b := b) (s := s) (k := min4 (i - s)) (fun q hq => by
          have h3 : min4 (i - s) ≤ i - s := by unfold min4; split <;> omega
          exact (isD_iff.mp (e3 (s + q) (by omega) (by omega))).2)
        exact Nat.lt_of_lt_of_le h2 (Nat.le_trans (Nat.pow_le_pow_right (by decide) h1) (by decide))
      by_cases h7 : i - s < 4
      · have e5 : 10 * dgv b s (min4 (i - s)) + b i - 48 = dgv b s (min4 (i + 1 - s)) := by
          have q1 : min4 (i - s) = i - s := if_pos h7
          have q2 : min4 (i + 1 - s) = (i - s) + 1 := by unfold min4; split <;> omega
          rw [q1, q2]
          show _ = 10 * dgv b s (i - s) + (b (s + (i - s)) - 48)
          rw [show s + (i - s) = i by omega]
          omega
        refine q_5 rfl ?_
        refine q_5 rfl ?_
        first | refine q_31E rfl (by decide) g15 ?_ | refine q_31 rfl (by decide) ?_
        refine q_47 (mj_ev_mono _) [_] rfl rfl rfl (by decide) rfl rfl rfl ?_
        refine s_169 hP hB' (by omega) ?_
        rw [bi]
        refine q_48 (mj_ev_mono _) [_] rfl rfl rfl rfl rfl ?_
        refine s_171 (by omega) ?_
        rw [li, if_pos rfl]
        first | refine q_eqN0 (by omega) (fun hh => absurd hh (by omega)) (fun hh => ?_) | refine q_eqI0 (fun hh => absurd hh (by omega)) (fun hh => ?_)
        refine q_5 rfl ?_
        first | refine q_31E rfl (by decide) g15 ?_ | refine q_31 rfl (by decide) ?_
        refine q_5 rfl ?_
        first | refine q_31E rfl (by decide) g17 ?_ | refine q_31 rfl (by decide) ?_
        first | refine q_sub (by omega) ?_ | refine q_11 rfl ?_
        refine q_0 ?_
        refine q_geN (by omega) (by omega) (fun hh => absurd hh (by omega)) (fun hh => ?_)
        refine q_5 rfl ?_
        refine q_0 ?_
        refine q_5 rfl ?_
        first | refine q_31E rfl (by decide) g19 ?_ | refine q_31 rfl (by decide) ?_
        first | refine q_mul ?_ | refine q_11 rfl ?_
        refine q_5 rfl ?_
        refine q_5 rfl ?_
        first | refine q_31E rfl (by decide) g15 ?_ | refine q_31 rfl (by decide) ?_
        refine q_47 (mj_ev_mono _) [_] rfl rfl rfl (by decide) rfl rfl rfl ?_
        refine s_169 hP hB' (by omega) ?_
        rw [bi]
        first | refine q_add ?_ | refine q_11 rfl ?_
        refine q_0 ?_
        first | refine q_sub (by omega) ?_ | refine q_11 rfl ?_
        rw [e5]
        refine q_34 rfl (by decide) ?_
        refine q_5 rfl ?_
        refine q_18 rfl ?_
        first | refine q_31E rfl (by decide) g15 ?_ | refine q_31 rfl (by decide) ?_
        refine q_0 ?_
        first | refine q_add ?_ | refine q_11 rfl ?_
        refine q_34 rfl (by decide) ?_
        refine q_23 ?_
        exact ih (by omega) _ _ _ ((E.up rfl).up rfl) EL upI_s (by rw [upI_j (by decide), upI_j (by decide)]; exact g17) (by rw [upI_j (by decide)]; exact upI_s)
      · have q2 : min4 (i + 1 - s) = min4 (i - s) := by unfold min4; rw [if_neg (by omega), if_neg (by omega)]
        refine q_5 rfl ?_
        refine q_5 rfl ?_
        first | refine q_31E rfl (by decide) g15 ?_ | refine q_31 rfl (by decide) ?_
        refine q_47 (mj_ev_mono _) [_] rfl rfl rfl (by decide) rfl rfl rfl ?_
        refine s_169 hP hB' (by omega) ?_
        rw [bi]
        refine q_48 (mj_ev_mono _) [_] rfl rfl rfl rfl rfl ?_
        refine s_171 (by omega) ?_
        rw [li, if_pos rfl]
        first | refine q_eqN0 (by omega) (fun hh => absurd hh (by omega)) (fun hh => ?_) | refine q_eqI0 (fun hh => absurd hh (by omega)) (fun hh => ?_)
        refine q_5 rfl ?_
        first | refine q_31E rfl (by decide) g15 ?_ | refine q_31 rfl (by decide) ?_
        refine q_5 rfl ?_
        first | refine q_31E rfl (by decide) g17 ?_ | refine q_31 rfl (by decide) ?_
        first | refine q_sub (by omega) ?_ | refine q_11 rfl ?_
        refine q_0 ?_
        refine q_geN (by omega) (by omega) (fun hh => ?_) (fun hh => absurd hh (by omega))
        refine q_5 rfl ?_
        refine q_18 rfl ?_
        first | refine q_31E rfl (by decide) g15 ?_ | refine q_31 rfl (by decide) ?_
        refine q_0 ?_
        first | refine q_add ?_ | refine q_11 rfl ?_
        refine q_34 rfl (by decide) ?_
        refine q_23 ?_
        exact ih (by omega) _ _ _ (E.up rfl) EL upI_s (by rw [upI_j (by decide)]; exact g17) (by rw [upI_j (by decide), q2]; exact g19)
  -- behind the blanks
  have S50 : ∀ I' x1, Eqf (frm [] tkF) I I' → I' 73 15 = nI s → mj_run (mj_ev (d + 1)) k172 Q (k172 50) [some (.ref 73), x1] [] (107, I', L, P) 0 0 := by
    intro I' x1 E g15
    have E2 : Eqf (frm [] tkF) I (mj_upI (mj_upI I' 73 17 (nI s)) 73 19 (nI 0)) := (E.up rfl).up rfl
    have hB2 := fB E2
    have g15b : mj_upI (mj_upI I' 73 17 (nI s)) 73 19 (nI 0) 73 15 = nI s := g15
    have g15c : ∀ v, mj_upI (mj_upI (mj_upI I' 73 17 (nI s)) 73 19 (nI 0)) 73 20 v 73 15 = nI s := fun v => g15
    have g14c : ∀ v, mj_upI (mj_upI (mj_upI I' 73 17 (nI s)) 73 19 (nI 0)) 73 20 v 73 14 = nI n := fun v => hB2.2.2
    have E3 : ∀ v, Eqf (frm [] tkF) I (mj_upI (mj_upI (mj_upI I' 73 17 (nI s)) 73 19 (nI 0)) 73 20 v) := fun v => E2.up rfl
    have EL2 : EqL (frm [] [(73, 21)]) L (mj_upL L 73 21 (lN 0)) := EqL.rf.up rfl
    by_cases hsn : s < n
    · have bs : bAt b n s = b s := bAt_in hsn
      have bl := (hB.1 s hsn).2
      cases hl : isL (b s) with
      | true =>
        have e1 := upTo_spec (q := fun i => isL (b i)) w2
        refine q_5 rfl ?_
        refine q_5 rfl ?_
        first | refine q_31E rfl (by decide) g15 ?_ | refine q_31E rfl (by decide) g15b ?_ | refine q_31E rfl (by decide) (g15c _) ?_ | refine q_31 rfl (by decide) ?_
        refine q_34 rfl (by decide) ?_
        refine q_5 rfl ?_
        refine q_2 ?_
        refine q_36 rfl (by decide) ?_
        refine q_5 rfl ?_
        refine q_0 ?_
        refine q_34 rfl (by decide) ?_
        refine q_5 rfl ?_
        refine q_5 rfl ?_
        first | refine q_31E rfl (by decide) g15 ?_ | refine q_31E rfl (by decide) g15b ?_ | refine q_31E rfl (by decide) (g15c _) ?_ | refine q_31 rfl (by decide) ?_
        refine q_47 (mj_ev_mono _) [_] rfl rfl rfl (by decide) rfl rfl rfl ?_
        refine s_169 hP hB2 (by omega) ?_
        rw [bs]
        refine q_6 rfl rfl rfl ?_
        refine q_5 rfl ?_
        refine q_3 rfl ?_
        refine q_34 rfl (by decide) ?_
        refine q_5 rfl ?_
        first | refine q_31E rfl (by decide) g15 ?_ | refine q_31E rfl (by decide) g15b ?_ | refine q_31E rfl (by decide) (g15c _) ?_ | refine q_31 rfl (by decide) ?_
        refine q_5 rfl ?_
        first | refine q_31E rfl (by decide) (g14c _) ?_ | refine q_31 rfl (by decide) ?_
        refine q_ltN (by omega) (by omega) (fun hh => ?_) (fun hh => absurd hh (by omega))
        refine q_3 rfl ?_
        refine q_48 (mj_ev_mono _) [_] rfl rfl rfl rfl rfl ?_
        refine s_170 (by omega) ?_
        rw [hl, if_pos rfl]
        first | refine q_eqN0 (by omega) (fun hh => absurd hh (by omega)) (fun hh => ?_) | refine q_eqI0 (fun hh => absurd hh (by omega)) (fun hh => ?_)
        exact S108 hsn hl s e1.1 (Nat.le_refl _) _ _ _ (E3 _) EL2 (g15c _) rfl (by rw [Nat.sub_self]; exact upL_s)
      | false =>
        cases hd : isD (b s) with
        | true =>
          have e1 := upTo_spec (q := fun i => isD (b i)) w2
          refine q_5 rfl ?_
          refine q_5 rfl ?_
          first | refine q_31E rfl (by decide) g15 ?_ | refine q_31E rfl (by decide) g15b ?_ | refine q_31E rfl (by decide) (g15c _) ?_ | refine q_31 rfl (by decide) ?_
          refine q_34 rfl (by decide) ?_
          refine q_5 rfl ?_
          refine q_2 ?_
          refine q_36 rfl (by decide) ?_
          refine q_5 rfl ?_
          refine q_0 ?_
          refine q_34 rfl (by decide) ?_
          refine q_5 rfl ?_
          refine q_5 rfl ?_
          first | refine q_31E rfl (by decide) g15 ?_ | refine q_31E rfl (by decide) g15b ?_ | refine q_31E rfl (by decide) (g15c _) ?_ | refine q_31 rfl (by decide) ?_
          refine q_47 (mj_ev_mono _) [_] rfl rfl rfl (by decide) rfl rfl rfl ?_
          refine s_169 hP hB2 (by omega) ?_
          rw [bs]
          refine q_6 rfl rfl rfl ?_
          refine q_5 rfl ?_
          refine q_3 rfl ?_
          refine q_34 rfl (by decide) ?_
          refine q_5 rfl ?_
          first | refine q_31E rfl (by decide) g15 ?_ | refine q_31E rfl (by decide) g15b ?_ | refine q_31E rfl (by decide) (g15c _) ?_ | refine q_31 rfl (by decide) ?_
          refine q_5 rfl ?_
          first | refine q_31E rfl (by decide) (g14c _) ?_ | refine q_31 rfl (by decide) ?_
          refine q_ltN (by omega) (by omega) (fun hh => ?_) (fun hh => absurd hh (by omega))
          refine q_3 rfl ?_
          refine q_48 (mj_ev_mono _) [_] rfl rfl rfl rfl rfl ?_
          refine s_170 (by omega) ?_
          rw [hl, if_neg (by decide)]
          first | refine q_eqN0 (by omega) (fun hh => ?_) (fun hh => absurd hh (by omega)) | refine q_eqI0 (fun hh => ?_) (fun hh => absurd (by omega) hh)
          refine q_3 rfl ?_
          refine q_48 (mj_ev_mono _) [_] rfl rfl rfl rfl rfl ?_
          refine s_171 (by omega) ?_
          rw [hd, if_pos rfl]
          first | refine q_eqN0 (by omega) (fun hh => absurd hh (by omega)) (fun hh => ?_) | refine q_eqI0 (fun hh => absurd hh (by omega)) (fun hh => ?_)
          exact S187 hsn hl hd s e1.1 (Nat.le_refl _) _ _ _ (E3 _) EL2 (g15c _) rfl (by rw [Nat.sub_self]; rfl)
        | false =>
          have kk : knd1 b n s = (if isSg (b s) = true then b s else 22) := by
            unfold knd1
            rw [if_neg (by omega), if_neg (by rw [hl]; decide), if_neg (by rw [hd]; decide)]
          have nn : nx1 b n s = s + 1 := by
            unfold nx1
            rw [if_neg (by omega), if_neg (by rw [hl]; decide), if_neg (by rw [hd]; decide)]
          have S328 : ∀ v, v = srt (knd1 b n s) → mj_run (mj_ev (d + 1)) k172 Q (k172 328) [some (.ref 73), some (.int (nI (b s)))] [.int (nI v), .ref 73] (107, mj_upI (mj_upI (mj_upI (mj_upI I' 73 17 (nI s)) 73 19 (nI 0)) 73 20 (nI (b s))) 73 15 (nI (s + 1)), mj_upL L 73 21 (lN 0), P) 0 0 := by
            rintro v rfl
            have sg : 40 ≤ knd1 b n s → knd1 b n s = b s := fun q => by
              rw [kk] at q ⊢
              split
              · rfl
              · rename_i q2
                rw [if_neg q2] at q
                omega
            have sg2 : 22 ≤ knd1 b n s := by
              rw [kk]
              split
              · rename_i q2
                rw [isSg_iff] at q2
                omega
              · omega
            refine q_34 rfl (by decide) ?_
            exact S331 _ _ (s + 1) _ (by omega) (by omega) (((E3 _).up rfl).up rfl) EL2 (by rw [upI_j (by decide)]; exact upI_s) rfl upI_s nn (fun q => absurd q (by omega)) (fun q => by rw [sg q]; rfl) (fun q => absurd q (by omega))
          refine q_5 rfl ?_
          refine q_5 rfl ?_
          first | refine q_31E rfl (by decide) g15 ?_ | refine q_31E rfl (by decide) g15b ?_ | refine q_31E rfl (by decide) (g15c _) ?_ | refine q_31 rfl (by decide) ?_
          refine q_34 rfl (by decide) ?_
          refine q_5 rfl ?_
          refine q_2 ?_
          refine q_36 rfl (by decide) ?_
          refine q_5 rfl ?_
          refine q_0 ?_
          refine q_34 rfl (by decide) ?_
          refine q_5 rfl ?_
          refine q_5 rfl ?_
          first | refine q_31E rfl (by decide) g15 ?_ | refine q_31E rfl (by decide) g15b ?_ | refine q_31E rfl (by decide) (g15c _) ?_ | refine q_31 rfl (by decide) ?_
          refine q_47 (mj_ev_mono _) [_] rfl rfl rfl (by decide) rfl rfl rfl ?_
          refine s_169 hP hB2 (by omega) ?_
          rw [bs]
          refine q_6 rfl rfl rfl ?_
          refine q_5 rfl ?_
          refine q_3 rfl ?_
          refine q_34 rfl (by decide) ?_
          refine q_5 rfl ?_
          first | refine q_31E rfl (by decide) g15 ?_ | refine q_31E rfl (by decide) g15b ?_ | refine q_31E rfl (by decide) (g15c _) ?_ | refine q_31 rfl (by decide) ?_
          refine q_5 rfl ?_
          first | refine q_31E rfl (by decide) (g14c _) ?_ | refine q_31 rfl (by decide) ?_
          refine q_ltN (by omega) (by omega) (fun hh => ?_) (fun hh => absurd hh (by omega))
          refine q_3 rfl ?_
          refine q_48 (mj_ev_mono _) [_] rfl rfl rfl rfl rfl ?_
          refine s_170 (by omega) ?_
          rw [hl, if_neg (by decide)]
          first | refine q_eqN0 (by omega) (fun hh => ?_) (fun hh => absurd hh (by omega)) | refine q_eqI0 (fun hh => ?_) (fun hh => absurd (by omega) hh)
          refine q_3 rfl ?_
          refine q_48 (mj_ev_mono _) [_] rfl rfl rfl rfl rfl ?_
          refine s_171 (by omega) ?_
          rw [hd, if_neg (by decide)]
          first | refine q_eqN0 (by omega) (fun hh => ?_) (fun hh => absurd hh (by omega)) | refine q_eqI0 (fun hh => ?_) (fun hh => absurd (by omega) hh)
          refine q_5 rfl ?_
          refine q_18 rfl ?_
          first | refine q_31E rfl (by decide) g15 ?_ | refine q_31E rfl (by decide) g15b ?_ | refine q_31E rfl (by decide) (g15c _) ?_ | refine q_31 rfl (by decide) ?_
          refine q_0 ?_
          first | refine q_add ?_ | refine q_11 rfl ?_
          refine q_34 rfl (by decide) ?_
          refine q_5 rfl ?_
          refine q_3 rfl ?_
          refine q_0 ?_
          first | refine q_eqN (by omega) (by omega) (fun hh => ?_) (fun hh => ?_) | refine q_eqI (fun hh => ?_) (fun hh => ?_)
          · refine q_0 ?_
            refine q_23 ?_
            first | exact S328 3 (by rw [kk, if_pos (by rw [isSg_iff]; omega)]; unfold srt; rw [if_neg (by omega), if_neg (by omega), if_neg (by omega), if_neg (by omega)]) | exact S328 4 (by rw [kk, if_neg (by rw [isSg_iff]; omega)]; rfl)
          · refine q_3 rfl ?_
            refine q_0 ?_
            first | refine q_eqN (by omega) (by omega) (fun hh => ?_) (fun hh => ?_) | refine q_eqI (fun hh => ?_) (fun hh => ?_)
            · refine q_0 ?_
              refine q_23 ?_
              first | exact S328 3 (by rw [kk, if_pos (by rw [isSg_iff]; omega)]; unfold srt; rw [if_neg (by omega), if_neg (by omega), if_neg (by omega), if_neg (by omega)]) | exact S328 4 (by rw [kk, if_neg (by rw [isSg_iff]; omega)]; rfl)
            · refine q_3 rfl ?_
              refine q_0 ?_
              first | refine q_eqN (by omega) (by omega) (fun hh => ?_) (fun hh => ?_) | refine q_eqI (fun hh => ?_) (fun hh => ?_)
              · refine q_0 ?_
                refine q_23 ?_
                first | exact S328 3 (by rw [kk, if_pos (by rw [isSg_iff]; omega)]; unfold srt; rw [if_neg (by omega), if_neg (by omega), if_neg (by omega), if_neg (by omega)]) | exact S328 4 (by rw [kk, if_neg (by rw [isSg_iff]; omega)]; rfl)
              · refine q_3 rfl ?_
                refine q_0 ?_
                first | refine q_eqN (by omega) (by omega) (fun hh => ?_) (fun hh => ?_) | refine q_eqI (fun hh => ?_) (fun hh => ?_)
                · refine q_0 ?_
                  refine q_23 ?_
                  first | exact S328 3 (by rw [kk, if_pos (by rw [isSg_iff]; omega)]; unfold srt; rw [if_neg (by omega), if_neg (by omega), if_neg (by omega), if_neg (by omega)]) | exact S328 4 (by rw [kk, if_neg (by rw [isSg_iff]; omega)]; rfl)
                · refine q_3 rfl ?_
                  refine q_0 ?_
                  first | refine q_eqN (by omega) (by omega) (fun hh => ?_) (fun hh => ?_) | refine q_eqI (fun hh => ?_) (fun hh => ?_)
                  · refine q_0 ?_
                    refine q_23 ?_
                    first | exact S328 3 (by rw [kk, if_pos (by rw [isSg_iff]; omega)]; unfold srt; rw [if_neg (by omega), if_neg (by omega), if_neg (by omega), if_neg (by omega)]) | exact S328 4 (by rw [kk, if_neg (by rw [isSg_iff]; omega)]; rfl)
                  · refine q_3 rfl ?_
                    refine q_0 ?_
                    first | refine q_eqN (by omega) (by omega) (fun hh => ?_) (fun hh => ?_) | refine q_eqI (fun hh => ?_) (fun hh => ?_)
                    · refine q_0 ?_
                      refine q_23 ?_
                      first | exact S328 3 (by rw [kk, if_pos (by rw [isSg_iff]; omega)]; unfold srt; rw [if_neg (by omega), if_neg (by omega), if_neg (by omega), if_neg (by omega)]) | exact S328 4 (by rw [kk, if_neg (by rw [isSg_iff]; omega)]; rfl)
                    · refine q_3 rfl ?_
                      refine q_0 ?_
                      first | refine q_eqN (by omega) (by omega) (fun hh => ?_) (fun hh => ?_) | refine q_eqI (fun hh => ?_) (fun hh => ?_)
                      · refine q_0 ?_
                        refine q_23 ?_
                        first | exact S328 3 (by rw [kk, if_pos (by rw [isSg_iff]; omega)]; unfold srt; rw [if_neg (by omega), if_neg (by omega), if_neg (by omega), if_neg (by omega)]) | exact S328 4 (by rw [kk, if_neg (by rw [isSg_iff]; omega)]; rfl)
                      · refine q_3 rfl ?_
                        refine q_0 ?_
                        first | refine q_eqN (by omega) (by omega) (fun hh => ?_) (fun hh => ?_) | refine q_eqI (fun hh => ?_) (fun hh => ?_)
                        · refine q_0 ?_
                          refine q_23 ?_
                          first | exact S328 3 (by rw [kk, if_pos (by rw [isSg_iff]; omega)]; unfold srt; rw [if_neg (by omega), if_neg (by omega), if_neg (by omega), if_neg (by omega)]) | exact S328 4 (by rw [kk, if_neg (by rw [isSg_iff]; omega)]; rfl)
                        · refine q_3 rfl ?_
                          refine q_0 ?_
                          first | refine q_neN (by omega) (by omega) (fun hh => ?_) (fun hh => ?_) | refine q_neI (fun hh => ?_) (fun hh => ?_)
                          · refine q_0 ?_
                            first | exact S328 3 (by rw [kk, if_pos (by rw [isSg_iff]; omega)]; unfold srt; rw [if_neg (by omega), if_neg (by omega), if_neg (by omega), if_neg (by omega)]) | exact S328 4 (by rw [kk, if_neg (by rw [isSg_iff]; omega)]; rfl)
                          · refine q_0 ?_
                            refine q_23 ?_
                            first | exact S328 3 (by rw [kk, if_pos (by rw [isSg_iff]; omega)]; unfold srt; rw [if_neg (by omega), if_neg (by omega), if_neg (by omega), if_neg (by omega)]) | exact S328 4 (by rw [kk, if_neg (by rw [isSg_iff]; omega)]; rfl)
    · have bs : bAt b n s = 0 := if_neg hsn
      have kk : knd1 b n s = 21 := if_pos (by omega)
      refine q_5 rfl ?_
      refine q_5 rfl ?_
      first | refine q_31E rfl (by decide) g15 ?_ | refine q_31E rfl (by decide) g15b ?_ | refine q_31E rfl (by decide) (g15c _) ?_ | refine q_31 rfl (by decide) ?_
      refine q_34 rfl (by decide) ?_
      refine q_5 rfl ?_
      refine q_2 ?_
      refine q_36 rfl (by decide) ?_
      refine q_5 rfl ?_
      refine q_0 ?_
      refine q_34 rfl (by decide) ?_
      refine q_5 rfl ?_
      refine q_5 rfl ?_
      first | refine q_31E rfl (by decide) g15 ?_ | refine q_31E rfl (by decide) g15b ?_ | refine q_31E rfl (by decide) (g15c _) ?_ | refine q_31 rfl (by decide) ?_
      refine q_47 (mj_ev_mono _) [_] rfl rfl rfl (by decide) rfl rfl rfl ?_
      refine s_169 hP hB2 (by omega) ?_
      rw [bs]
      refine q_6 rfl rfl rfl ?_
      refine q_5 rfl ?_
      refine q_3 rfl ?_
      refine q_34 rfl (by decide) ?_
      refine q_5 rfl ?_
      first | refine q_31E rfl (by decide) g15 ?_ | refine q_31E rfl (by decide) g15b ?_ | refine q_31E rfl (by decide) (g15c _) ?_ | refine q_31 rfl (by decide) ?_
      refine q_5 rfl ?_
      first | refine q_31E rfl (by decide) (g14c _) ?_ | refine q_31 rfl (by decide) ?_
      refine q_ltN (by omega) (by omega) (fun hh => absurd hh (by omega)) (fun hh => ?_)
      refine q_5 rfl ?_
      refine q_0 ?_
      refine q_34 rfl (by decide) ?_
      refine q_23 ?_
      exact S331 _ _ s _ (Nat.le_refl _) (by omega) ((E3 _).up rfl) EL2 g15 rfl (by rw [upI_s, kk]; rfl) (by unfold nx1; rw [if_pos (by omega)]; omega) (fun q => absurd q (by omega)) (fun q => absurd q (by omega)) (fun q => absurd q (by omega))
  -- blanks
  have S0 : ∀ i, i ≤ s → tkp b n j ≤ i → ∀ I' x1, Eqf (frm [] tkF) I I' → I' 73 15 = nI i → mj_run (mj_ev (d + 1)) k172 Q (k172 0) [some (.ref 73), x1] [] (107, I', L, P) 0 0 := by
    refine loop_up ?_ (fun i hi ih => ?_)
    · intro _ I' x1 E g15
      have hB' := fB E
      have g14 := hB'.2.2
      by_cases hsn : s < n
      · have nw := w4 hsn
        have nw2 : ¬ (b s = 32 ∨ b s = 10) := fun q => by
          have := isWs_iff.mpr q
          rw [show isWs (b s) = false from nw] at this
          cases this
        have bs : bAt b n s = b s := bAt_in hsn
        have bl := (hB.1 s hsn).2
        refine q_5 rfl ?_
        first | refine q_31E rfl (by decide) g15 ?_ | refine q_31 rfl (by decide) ?_
        refine q_5 rfl ?_
        first | refine q_31E rfl (by decide) g14 ?_ | refine q_31 rfl (by decide) ?_
        refine q_geN (by omega) (by omega) (fun hh => absurd hh (by omega)) (fun hh => ?_)
        refine q_5 rfl ?_
        refine q_5 rfl ?_
        first | refine q_31E rfl (by decide) g15 ?_ | refine q_31 rfl (by decide) ?_
        refine q_47 (mj_ev_mono _) [_] rfl rfl rfl (by decide) rfl rfl rfl ?_
        refine s_169 hP hB' (by omega) ?_
        rw [bs]
        refine q_0 ?_
        refine q_eqN (by omega) (by omega) (fun hh => absurd hh (by omega)) (fun hh => ?_)
        refine q_5 rfl ?_
        refine q_5 rfl ?_
        first | refine q_31E rfl (by decide) g15 ?_ | refine q_31 rfl (by decide) ?_
        refine q_47 (mj_ev_mono _) [_] rfl rfl rfl (by decide) rfl rfl rfl ?_
        refine s_169 hP hB' (by omega) ?_
        rw [bs]
        refine q_0 ?_
        refine q_neN (by omega) (by omega) (fun hh => ?_) (fun hh => absurd hh (by omega))
        exact S50 I' _ E g15
      · refine q_5 rfl ?_
        first | refine q_31E rfl (by decide) g15 ?_ | refine q_31 rfl (by decide) ?_
        refine q_5 rfl ?_
        first | refine q_31E rfl (by decide) g14 ?_ | refine q_31 rfl (by decide) ?_
        refine q_geN (by omega) (by omega) (fun hh => ?_) (fun hh => absurd hh (by omega))
        exact S50 I' _ E g15
    · intro hpi I' x1 E g15
      have hB' := fB E
      have g14 := hB'.2.2
      have nw := isWs_iff.mp (w3 i hpi hi)
      have bs : bAt b n i = b i := bAt_in (by omega)
      by_cases h32 : b i = 32
      · refine q_5 rfl ?_
        first | refine q_31E rfl (by decide) g15 ?_ | refine q_31 rfl (by decide) ?_
        refine q_5 rfl ?_
        first | refine q_31E rfl (by decide) g14 ?_ | refine q_31 rfl (by decide) ?_
        refine q_geN (by omega) (by omega) (fun hh => absurd hh (by omega)) (fun hh => ?_)
        refine q_5 rfl ?_
        refine q_5 rfl ?_
        first | refine q_31E rfl (by decide) g15 ?_ | refine q_31 rfl (by decide) ?_
        refine q_47 (mj_ev_mono _) [_] rfl rfl rfl (by decide) rfl rfl rfl ?_
        refine s_169 hP hB' (by omega) ?_
        rw [bs]
        refine q_0 ?_
        refine q_eqN (by omega) (by omega) (fun hh => ?_) (fun hh => absurd hh (by omega))
        refine q_5 rfl ?_
        refine q_18 rfl ?_
        first | refine q_31E rfl (by decide) g15 ?_ | refine q_31 rfl (by decide) ?_
        refine q_0 ?_
        first | refine q_add ?_ | refine q_11 rfl ?_
        refine q_34 rfl (by decide) ?_
        refine q_23 ?_
        exact ih (by omega) _ _ (E.up rfl) upI_s
      · have bl : b i = 10 := by omega
        refine q_5 rfl ?_
        first | refine q_31E rfl (by decide) g15 ?_ | refine q_31 rfl (by decide) ?_
        refine q_5 rfl ?_
        first | refine q_31E rfl (by decide) g14 ?_ | refine q_31 rfl (by decide) ?_
        refine q_geN (by omega) (by omega) (fun hh => absurd hh (by omega)) (fun hh => ?_)
        refine q_5 rfl ?_
        refine q_5 rfl ?_
        first | refine q_31E rfl (by decide) g15 ?_ | refine q_31 rfl (by decide) ?_
        refine q_47 (mj_ev_mono _) [_] rfl rfl rfl (by decide) rfl rfl rfl ?_
        refine s_169 hP hB' (by omega) ?_
        rw [bs]
        refine q_0 ?_
        refine q_eqN (by omega) (by omega) (fun hh => absurd hh (by omega)) (fun hh => ?_)
        refine q_5 rfl ?_
        refine q_5 rfl ?_
        first | refine q_31E rfl (by decide) g15 ?_ | refine q_31 rfl (by decide) ?_
        refine q_47 (mj_ev_mono _) [_] rfl rfl rfl (by decide) rfl rfl rfl ?_
        refine s_169 hP hB' (by omega) ?_
        rw [bs]
        refine q_0 ?_
        refine q_neN (by omega) (by omega) (fun hh => absurd hh (by omega)) (fun hh => ?_)
        refine q_5 rfl ?_
        refine q_18 rfl ?_
        first | refine q_31E rfl (by decide) g15 ?_ | refine q_31 rfl (by decide) ?_
        refine q_0 ?_
        first | refine q_add ?_ | refine q_11 rfl ?_
        refine q_34 rfl (by decide) ?_
        refine q_23 ?_
        exact ih (by omega) _ _ (E.up rfl) upI_s
  show mj_run (mj_ev (d + 1)) k172 Q (k172 0) [some (.ref 73), none] [] (107, I, L, P) 0 0
  exact S0 _ w1 (Nat.le_refl _) I _ Eqf.rf h15
end M
