/-! the model's words, faults, small methods of its reader -/
def spa (v x : Nat) : Nat := if x = 0 then v else 32 * v + (x - 96)
def lz (x : Nat) : Prop := x = 0 ∨ (97 ≤ x ∧ x ≤ 122)
theorem t_word {b : Nat → Nat} {n j : Nat} (h : tK b n j ≤ 19) : (∀ i, i < tD b n j → 97 ≤ b (tB b n j + i) ∧ b (tB b n j + i) ≤ 122) ∧ tK b n j = kwd b (tB b n j) (tD b n j) := by
  have h1 := t_adv (b := b) (n := n) (j := j) (by omega)
  unfold tD
  rw [tkp_s]
  have hk : tK b n j = knd1 b n (tB b n j) := rfl
  generalize tB b n j = s at *
  have hl : isL (b s) = true := by
    rw [hk] at h
    unfold knd1 at h
    rw [if_neg (by omega)] at h
    cases hl : isL (b s) with
    | true => rfl
    | false =>
      rw [hl, if_neg (by decide)] at h
      split at h
      · omega
      · split at h
        · rename_i q
          rw [isSg_iff] at q
          omega
        · omega
  have e : nx1 b n s = wnd b n s := by
    unfold nx1
    rw [if_neg (by omega), if_pos hl]
  have e2 : knd1 b n s = kwd b s (wnd b n s - s) := by
    unfold knd1
    rw [if_neg (by omega), if_pos hl]
  rw [e]
  obtain ⟨g1, g2, g3, g4⟩ := upTo_spec (q := fun i => isL (b i)) (n := n) (p := s) (by omega)
  exact ⟨fun i hi => isL_iff.mp (g3 (s + i) (by omega) (by unfold wnd at hi; omega)), hk.trans e2⟩
theorem t_kinds {b : Nat → Nat} {n j : Nat} : tK b n j ≤ 22 ∨ 40 ≤ tK b n j := by
  unfold tK knd1
  split
  · left; omega
  · split
    · left
      have := kwd_le (b := b) (s := tB b n j) (l := wnd b n (tB b n j) - tB b n j)
      omega
    · split
      · left; omega
      · split
        · rename_i q
          rw [isSg_iff] at q
          right; omega
        · left; omega
theorem srt_3 {k : Nat} (h : k ≤ 22 ∨ 40 ≤ k) : srt k = 3 ↔ 40 ≤ k := by
  unfold srt
  constructor
  · intro e
    rcases h with h | h
    · split at e
      · omega
      · split at e
        · omega
        · split at e
          · omega
          · split at e <;> omega
    · exact h
  · intro q
    rw [if_neg (by omega), if_neg (by omega), if_neg (by omega), if_neg (by omega)]
theorem srt_le (k : Nat) : srt k ≤ 4 := by
  unfold srt
  repeat' split
  all_goals omega
theorem srt_1 {k : Nat} : srt k = 1 ↔ k ≤ 19 := by
  unfold srt
  constructor
  · intro e
    split at e
    · omega
    · split at e
      · assumption
      · split at e
        · omega
        · split at e <;> omega
  · intro q
    rw [if_neg (by omega), if_pos q]
theorem srt_2 {k : Nat} : srt k = 2 ↔ k = 20 := by
  unfold srt
  constructor
  · intro e
    split at e
    · omega
    · split at e
      · omega
      · split at e
        · assumption
        · split at e <;> omega
  · intro q
    subst q
    rfl
def stg (a : Nat) : Nat := if a = 5 then 1 else if a = 4 then 2 else if a = 3 then 3 else if a = 6 ∨ a = 7 then 4 else if a = 8 ∨ a = 9 then 5 else 6
/-- what waits: the last one first -/
def wst (f : Nat → Int32) : List Nat → Prop
  | [] => True
  | a :: W => f W.length = nI a ∧ wst f W
theorem wst_up {f g : Nat → Int32} : ∀ {W : List Nat}, (∀ j, j < W.length → g j = f j) → wst f W → wst g W
  | [], _, _ => trivial
  | a :: W, h, hp => ⟨by rw [h _ (by simp)]; exact hp.1, wst_up (fun j hj => h j (by rw [List.length_cons]; omega)) hp.2⟩
/-- acts that wait -/
def act (a : Nat) : Prop := 3 ≤ a ∧ (a ≤ 11 ∨ a = 14)
/-- those that go at a strength -/
def dpd (l : Nat) : List Nat → List Nat
  | [] => []
  | a :: W => if a < 14 ∧ l ≤ stg a then a :: dpd l W else []
def dpr (l : Nat) : List Nat → List Nat
  | [] => []
  | a :: W => if a < 14 ∧ l ≤ stg a then dpr l W else a :: W
theorem dp_len {l : Nat} : ∀ W : List Nat, (dpd l W).length + (dpr l W).length = W.length
  | [] => rfl
  | a :: W => by
    unfold dpd dpr
    split
    · rw [List.length_cons, List.length_cons]
      have := dp_len (l := l) W
      omega
    · simp
/-- what is put out -/
def OUT (O : List Nat) (f : Nat → Int32) : Prop := ∀ i v, O[i]? = some v → f i = nI v
theorem OUT.push {O : List Nat} {f : Nat → Int32} {v : Nat} (h : OUT O f) : OUT (O ++ [v]) (upd f O.length (nI v)) := by
  intro i x hx
  by_cases q : i < O.length
  · rw [List.getElem?_append_left q] at hx
    rw [pk_un (by omega)]
    exact h i x hx
  · rw [List.getElem?_append_right (by omega)] at hx
    have : i = O.length := by
      by_cases q2 : i - O.length = 0
      · omega
      · rw [List.getElem?_eq_none (by show 1 ≤ i - O.length; omega)] at hx
        cases hx
    subst this
    rw [Nat.sub_self] at hx
    cases hx
    exact pk_us
section M
variable {I : mj_I} {L : mj_L} {P : mj_P} {Q : mj_Q} {d n r t j : Nat} {b : Nat → Nat}
theorem s_173 {x0 x1 x2 x3 x4 x5 x6 : Nat} (h0 : 97 ≤ x0 ∧ x0 ≤ 122) (h1 : 97 ≤ x1 ∧ x1 ≤ 122) (h2 : lz x2) (h3 : lz x3) (h4 : lz x4) (h5 : lz x5) (h6 : lz x6) (k : Q (.inl (some (.long (lN (spa (spa (spa (spa (spa (32 * (x0 - 96) + (x1 - 96)) x2) x3) x4) x5) x6))))) (107, I, L, P)) : mj_ev (d + 1) 173 [.int (nI x0), .int (nI x1), .int (nI x2), .int (nI x3), .int (nI x4), .int (nI x5), .int (nI x6)] (107, I, L, P) Q := by
  refine ⟨rfl, ?_⟩
  have sl : ∀ {v x B : Nat}, lz x → v < B → 32 ≤ 32 * B → spa v x < 32 * B := fun {v x B} hx hv _ => by
    unfold spa
    split
    · omega
    · rcases hx with q | q
      · omega
      · omega
  have S102 : ∀ v, v = spa (spa (spa (spa (spa (32 * (x0 - 96) + (x1 - 96)) x2) x3) x4) x5) x6 → mj_run (mj_ev d) k173 Q (k173 102) [some (.int (nI x0)), some (.int (nI x1)), some (.int (nI x2)), some (.int (nI x3)), some (.int (nI x4)), some (.int (nI x5)), some (.int (nI x6)), some (.long (lN v)), none] [] (107, I, L, P) 0 0 := by
    rintro v rfl
    refine q_4 rfl ?_
    refine q_28 ?_
    exact k
  have S84 : ∀ v, v < 1073741824 → (spa v x6) = spa (spa (spa (spa (spa (32 * (x0 - 96) + (x1 - 96)) x2) x3) x4) x5) x6 → mj_run (mj_ev d) k173 Q (k173 84) [some (.int (nI x0)), some (.int (nI x1)), some (.int (nI x2)), some (.int (nI x3)), some (.int (nI x4)), some (.int (nI x5)), some (.int (nI x6)), some (.long (lN v)), none] [] (107, I, L, P) 0 0 := by
    intro v hv hf
    by_cases hx : x6 = 0
    · rw [show spa v x6 = v from if_pos hx] at hf
      refine q_3 rfl ?_
      first | refine q_eqN0 (by omega) (fun hh => ?_) (fun hh => absurd hh (by omega)) | refine q_eqI0 (fun hh => ?_) (fun hh => absurd (by omega) hh)
      exact S102 v hf
    · have hx2 : 97 ≤ x6 ∧ x6 ≤ 122 := h6.resolve_left hx
      rw [show spa v x6 = 32 * v + (x6 - 96) from if_neg hx] at hf
      refine q_3 rfl ?_
      first | refine q_eqN0 (by omega) (fun hh => absurd hh (by omega)) (fun hh => ?_) | refine q_eqI0 (fun hh => absurd hh (by omega)) (fun hh => ?_)
      refine q_4 rfl ?_
      refine q_0 ?_
      refine q_14 ?_
      refine q_3 rfl ?_
      refine q_0 ?_
      first | refine q_sub (by omega) ?_ | refine q_11 rfl ?_
      refine q_15 ?_
      rw [nI_l (by omega)]
      refine q_13 rfl ?_
      rw [shl5 (by omega) (by omega)]
      refine q_7 rfl rfl rfl ?_
      exact S102 (32 * v + (x6 - 96)) hf
  have S66 : ∀ v, v < 33554432 → (spa (spa v x5) x6) = spa (spa (spa (spa (spa (32 * (x0 - 96) + (x1 - 96)) x2) x3) x4) x5) x6 → mj_run (mj_ev d) k173 Q (k173 66) [some (.int (nI x0)), some (.int (nI x1)), some (.int (nI x2)), some (.int (nI x3)), some (.int (nI x4)), some (.int (nI x5)), some (.int (nI x6)), some (.long (lN v)), none] [] (107, I, L, P) 0 0 := by
    intro v hv hf
    by_cases hx : x5 = 0
    · rw [show spa v x5 = v from if_pos hx] at hf
      refine q_3 rfl ?_
      first | refine q_eqN0 (by omega) (fun hh => ?_) (fun hh => absurd hh (by omega)) | refine q_eqI0 (fun hh => ?_) (fun hh => absurd (by omega) hh)
      exact S84 v (by omega) hf
    · have hx2 : 97 ≤ x5 ∧ x5 ≤ 122 := h5.resolve_left hx
      rw [show spa v x5 = 32 * v + (x5 - 96) from if_neg hx] at hf
      refine q_3 rfl ?_
      first | refine q_eqN0 (by omega) (fun hh => absurd hh (by omega)) (fun hh => ?_) | refine q_eqI0 (fun hh => absurd hh (by omega)) (fun hh => ?_)
      refine q_4 rfl ?_
      refine q_0 ?_
      refine q_14 ?_
      refine q_3 rfl ?_
      refine q_0 ?_
      first | refine q_sub (by omega) ?_ | refine q_11 rfl ?_
      refine q_15 ?_
      rw [nI_l (by omega)]
      refine q_13 rfl ?_
      rw [shl5 (by omega) (by omega)]
      refine q_7 rfl rfl rfl ?_
      exact S84 (32 * v + (x5 - 96)) (by omega) hf
  have S48 : ∀ v, v < 1048576 → (spa (spa (spa v x4) x5) x6) = spa (spa (spa (spa (spa (32 * (x0 - 96) + (x1 - 96)) x2) x3) x4) x5) x6 → mj_run (mj_ev d) k173 Q (k173 48) [some (.int (nI x0)), some (.int (nI x1)), some (.int (nI x2)), some (.int (nI x3)), some (.int (nI x4)), some (.int (nI x5)), some (.int (nI x6)), some (.long (lN v)), none] [] (107, I, L, P) 0 0 := by
    intro v hv hf
    by_cases hx : x4 = 0
    · rw [show spa v x4 = v from if_pos hx] at hf
      refine q_3 rfl ?_
      first | refine q_eqN0 (by omega) (fun hh => ?_) (fun hh => absurd hh (by omega)) | refine q_eqI0 (fun hh => ?_) (fun hh => absurd (by omega) hh)
      exact S66 v (by omega) hf
    · have hx2 : 97 ≤ x4 ∧ x4 ≤ 122 := h4.resolve_left hx
      rw [show spa v x4 = 32 * v + (x4 - 96) from if_neg hx] at hf
      refine q_3 rfl ?_
      first | refine q_eqN0 (by omega) (fun hh => absurd hh (by omega)) (fun hh => ?_) | refine q_eqI0 (fun hh => absurd hh (by omega)) (fun hh => ?_)
      refine q_4 rfl ?_
      refine q_0 ?_
      refine q_14 ?_
      refine q_3 rfl ?_
      refine q_0 ?_
      first | refine q_sub (by omega) ?_ | refine q_11 rfl ?_
      refine q_15 ?_
      rw [nI_l (by omega)]
      refine q_13 rfl ?_
      rw [shl5 (by omega) (by omega)]
      refine q_7 rfl rfl rfl ?_
      exact S66 (32 * v + (x4 - 96)) (by omega) hf
  have S32 : ∀ v, v < 32768 → (spa (spa (spa (spa v x3) x4) x5) x6) = spa (spa (spa (spa (spa (32 * (x0 - 96) + (x1 - 96)) x2) x3) x4) x5) x6 → mj_run (mj_ev d) k173 Q (k173 32) [some (.int (nI x0)), some (.int (nI x1)), some (.int (nI x2)), some (.int (nI x3)), some (.int (nI x4)), some (.int (nI x5)), some (.int (nI x6)), some (.long (lN v)), none] [] (107, I, L, P) 0 0 := by
    intro v hv hf
    by_cases hx : x3 = 0
    · rw [show spa v x3 = v from if_pos hx] at hf
      refine q_3 rfl ?_
      first | refine q_eqN0 (by omega) (fun hh => ?_) (fun hh => absurd hh (by omega)) | refine q_eqI0 (fun hh => ?_) (fun hh => absurd (by omega) hh)
      exact S48 v (by omega) hf
    · have hx2 : 97 ≤ x3 ∧ x3 ≤ 122 := h3.resolve_left hx
      rw [show spa v x3 = 32 * v + (x3 - 96) from if_neg hx] at hf
      refine q_3 rfl ?_
      first | refine q_eqN0 (by omega) (fun hh => absurd hh (by omega)) (fun hh => ?_) | refine q_eqI0 (fun hh => absurd hh (by omega)) (fun hh => ?_)
      refine q_4 rfl ?_
      refine q_0 ?_
      refine q_14 ?_
      refine q_3 rfl ?_
      refine q_0 ?_
      first | refine q_sub (by omega) ?_ | refine q_11 rfl ?_
      refine q_15 ?_
      rw [nI_l (by omega)]
      refine q_13 rfl ?_
      rw [shl5 (by omega) (by omega)]
      refine q_7 rfl rfl rfl ?_
      exact S48 (32 * v + (x3 - 96)) (by omega) hf
  show mj_run (mj_ev d) k173 Q (k173 0) [some (.int (nI x0)), some (.int (nI x1)), some (.int (nI x2)), some (.int (nI x3)), some (.int (nI x4)), some (.int (nI x5)), some (.int (nI x6)), none, none] [] (107, I, L, P) 0 0
  by_cases hx : x2 = 0
  · refine q_3 rfl ?_
    refine q_15 ?_
    rw [nI_l (by omega)]
    refine q_2 ?_
    refine q_13 rfl ?_
    rw [lN_sub (by omega)]
    refine q_0 ?_
    refine q_14 ?_
    refine q_3 rfl ?_
    refine q_0 ?_
    first | refine q_sub (by omega) ?_ | refine q_11 rfl ?_
    refine q_15 ?_
    rw [nI_l (by omega)]
    refine q_13 rfl ?_
    rw [shl5 (by omega) (by omega)]
    refine q_7 rfl rfl rfl ?_
    refine q_3 rfl ?_
    first | refine q_eqN0 (by omega) (fun hh => ?_) (fun hh => absurd hh (by omega)) | refine q_eqI0 (fun hh => ?_) (fun hh => absurd (by omega) hh)
    exact S32 _ (by omega) (by rw [show spa (32 * (x0 - 96) + (x1 - 96)) x2 = 32 * (x0 - 96) + (x1 - 96) from if_pos hx])
  · have hx2 : 97 ≤ x2 ∧ x2 ≤ 122 := h2.resolve_left hx
    refine q_3 rfl ?_
    refine q_15 ?_
    rw [nI_l (by omega)]
    refine q_2 ?_
    refine q_13 rfl ?_
    rw [lN_sub (by omega)]
    refine q_0 ?_
    refine q_14 ?_
    refine q_3 rfl ?_
    refine q_0 ?_
    first | refine q_sub (by omega) ?_ | refine q_11 rfl ?_
    refine q_15 ?_
    rw [nI_l (by omega)]
    refine q_13 rfl ?_
    rw [shl5 (by omega) (by omega)]
    refine q_7 rfl rfl rfl ?_
    refine q_3 rfl ?_
    first | refine q_eqN0 (by omega) (fun hh => absurd hh (by omega)) (fun hh => ?_) | refine q_eqI0 (fun hh => absurd hh (by omega)) (fun hh => ?_)
    refine q_4 rfl ?_
    refine q_0 ?_
    refine q_14 ?_
    refine q_3 rfl ?_
    refine q_0 ?_
    first | refine q_sub (by omega) ?_ | refine q_11 rfl ?_
    refine q_15 ?_
    rw [nI_l (by omega)]
    refine q_13 rfl ?_
    rw [shl5 (by omega) (by omega)]
    refine q_7 rfl rfl rfl ?_
    exact S32 _ (by omega) (by rw [show spa (32 * (x0 - 96) + (x1 - 96)) x2 = 32 * (32 * (x0 - 96) + (x1 - 96)) + (x2 - 96) from if_neg hx])
theorem s_174 {i : Nat} (hi : i < 19) (k : Q (.inl (some (.long (lN (wC (cw i)))))) (107, I, L, P)) : mj_ev (d + 2) 174 [.int (nI i)] (107, I, L, P) Q := by
  refine ⟨rfl, ?_⟩
  show mj_run (mj_ev (d + 1)) k174 Q (k174 0) [some (.int (nI i))] [] (107, I, L, P) 0 0
  obtain rfl | rfl | rfl | rfl | rfl | rfl | rfl | rfl | rfl | rfl | rfl | rfl | rfl | rfl | rfl | rfl | rfl | rfl | rfl : i = 0 ∨ i = 1 ∨ i = 2 ∨ i = 3 ∨ i = 4 ∨ i = 5 ∨ i = 6 ∨ i = 7 ∨ i = 8 ∨ i = 9 ∨ i = 10 ∨ i = 11 ∨ i = 12 ∨ i = 13 ∨ i = 14 ∨ i = 15 ∨ i = 16 ∨ i = 17 ∨ i = 18 := by omega
  · refine q_3 rfl ?_
    refine q_24E (t := 88) (rfl) ?_
    refine q_0 ?_
    refine q_0 ?_
    refine q_0 ?_
    refine q_0 ?_
    refine q_0 ?_
    refine q_0 ?_
    refine q_0 ?_
    refine q_48 (mj_ev_mono _) [_, _, _, _, _, _, _] rfl rfl rfl rfl rfl ?_
    refine s_173 (by omega) (by omega) (Or.inr (by omega)) (Or.inr (by omega)) (Or.inr (by omega)) (Or.inr (by omega)) (Or.inr (by omega)) ?_
    rw [show spa (spa (spa (spa (spa (32 * (99 - 96) + (111 - 96)) 108) 111) 117) 114) 115 = wC (cw 0) by decide +kernel]
    refine q_28 ?_
    exact k
  · refine q_3 rfl ?_
    refine q_24E (t := 106) (rfl) ?_
    refine q_0 ?_
    refine q_0 ?_
    refine q_0 ?_
    refine q_0 ?_
    refine q_0 ?_
    refine q_0 ?_
    refine q_0 ?_
    refine q_48 (mj_ev_mono _) [_, _, _, _, _, _, _] rfl rfl rfl rfl rfl ?_
    refine s_173 (by omega) (by omega) (Or.inr (by omega)) (Or.inr (by omega)) (Or.inr (by omega)) (Or.inl rfl) (Or.inl rfl) ?_
    rw [show spa (spa (spa (spa (spa (32 * (115 - 96) + (105 - 96)) 122) 101) 115) 0) 0 = wC (cw 1) by decide +kernel]
    refine q_28 ?_
    exact k
  · refine q_3 rfl ?_
    refine q_24E (t := 122) (rfl) ?_
    refine q_0 ?_
    refine q_0 ?_
    refine q_0 ?_
    refine q_0 ?_
    refine q_0 ?_
    refine q_0 ?_
    refine q_0 ?_
    refine q_48 (mj_ev_mono _) [_, _, _, _, _, _, _] rfl rfl rfl rfl rfl ?_
    refine s_173 (by omega) (by omega) (Or.inr (by omega)) (Or.inr (by omega)) (Or.inl rfl) (Or.inl rfl) (Or.inl rfl) ?_
    rw [show spa (spa (spa (spa (spa (32 * (119 - 96) + (111 - 96)) 114) 110) 0) 0) 0 = wC (cw 2) by decide +kernel]
    refine q_28 ?_
    exact k
  · refine q_3 rfl ?_
    refine q_24E (t := 137) (rfl) ?_
    refine q_0 ?_
    refine q_0 ?_
    refine q_0 ?_
    refine q_0 ?_
    refine q_0 ?_
    refine q_0 ?_
    refine q_0 ?_
    refine q_48 (mj_ev_mono _) [_, _, _, _, _, _, _] rfl rfl rfl rfl rfl ?_
    refine s_173 (by omega) (by omega) (Or.inr (by omega)) (Or.inr (by omega)) (Or.inr (by omega)) (Or.inr (by omega)) (Or.inr (by omega)) ?_
    rw [show spa (spa (spa (spa (spa (32 * (112 - 96) + (97 - 96)) 116) 116) 101) 114) 110 = wC (cw 3) by decide +kernel]
    refine q_28 ?_
    exact k
  · refine q_3 rfl ?_
    refine q_24E (t := 155) (rfl) ?_
    refine q_0 ?_
    refine q_0 ?_
    refine q_0 ?_
    refine q_0 ?_
    refine q_0 ?_
    refine q_0 ?_
    refine q_0 ?_
    refine q_48 (mj_ev_mono _) [_, _, _, _, _, _, _] rfl rfl rfl rfl rfl ?_
    refine s_173 (by omega) (by omega) (Or.inr (by omega)) (Or.inr (by omega)) (Or.inl rfl) (Or.inl rfl) (Or.inl rfl) ?_
    rw [show spa (spa (spa (spa (spa (32 * (119 - 96) + (111 - 96)) 111) 108) 0) 0) 0 = wC (cw 4) by decide +kernel]
    refine q_28 ?_
    exact k
  · refine q_3 rfl ?_
    refine q_24E (t := 170) (rfl) ?_
    refine q_0 ?_
    refine q_0 ?_
    refine q_0 ?_
    refine q_0 ?_
    refine q_0 ?_
    refine q_0 ?_
    refine q_0 ?_
    refine q_48 (mj_ev_mono _) [_, _, _, _, _, _, _] rfl rfl rfl rfl rfl ?_
    refine s_173 (by omega) (by omega) (Or.inr (by omega)) (Or.inr (by omega)) (Or.inr (by omega)) (Or.inl rfl) (Or.inl rfl) ?_
    rw [show spa (spa (spa (spa (spa (32 * (112 - 96) + (108 - 96)) 97) 105) 110) 0) 0 = wC (cw 5) by decide +kernel]
    refine q_28 ?_
    exact k
  · refine q_3 rfl ?_
    refine q_24E (t := 186) (rfl) ?_
    refine q_0 ?_
    refine q_0 ?_
    refine q_0 ?_
    refine q_0 ?_
    refine q_0 ?_
    refine q_0 ?_
    refine q_0 ?_
    refine q_48 (mj_ev_mono _) [_, _, _, _, _, _, _] rfl rfl rfl rfl rfl ?_
    refine s_173 (by omega) (by omega) (Or.inr (by omega)) (Or.inr (by omega)) (Or.inr (by omega)) (Or.inl rfl) (Or.inl rfl) ?_
    rw [show spa (spa (spa (spa (spa (32 * (104 - 96) + (111 - 96)) 108) 101) 115) 0) 0 = wC (cw 6) by decide +kernel]
    refine q_28 ?_
    exact k
  · refine q_3 rfl ?_
    refine q_24E (t := 202) (rfl) ?_
    refine q_0 ?_
    refine q_0 ?_
    refine q_0 ?_
    refine q_0 ?_
    refine q_0 ?_
    refine q_0 ?_
    refine q_0 ?_
    refine q_48 (mj_ev_mono _) [_, _, _, _, _, _, _] rfl rfl rfl rfl rfl ?_
    refine s_173 (by omega) (by omega) (Or.inr (by omega)) (Or.inr (by omega)) (Or.inr (by omega)) (Or.inl rfl) (Or.inl rfl) ?_
    rw [show spa (spa (spa (spa (spa (32 * (97 - 96) + (108 - 96)) 105) 107) 101) 0) 0 = wC (cw 7) by decide +kernel]
    refine q_28 ?_
    exact k
  · refine q_3 rfl ?_
    refine q_24E (t := 218) (rfl) ?_
    refine q_0 ?_
    refine q_0 ?_
    refine q_0 ?_
    refine q_0 ?_
    refine q_0 ?_
    refine q_0 ?_
    refine q_0 ?_
    refine q_48 (mj_ev_mono _) [_, _, _, _, _, _, _] rfl rfl rfl rfl rfl ?_
    refine s_173 (by omega) (by omega) (Or.inr (by omega)) (Or.inr (by omega)) (Or.inr (by omega)) (Or.inl rfl) (Or.inl rfl) ?_
    rw [show spa (spa (spa (spa (spa (32 * (99 - 96) + (104 - 96)) 97) 114) 109) 0) 0 = wC (cw 8) by decide +kernel]
    refine q_28 ?_
    exact k
  · refine q_3 rfl ?_
    refine q_24E (t := 234) (rfl) ?_
    refine q_0 ?_
    refine q_0 ?_
    refine q_0 ?_
    refine q_0 ?_
    refine q_0 ?_
    refine q_0 ?_
    refine q_0 ?_
    refine q_48 (mj_ev_mono _) [_, _, _, _, _, _, _] rfl rfl rfl rfl rfl ?_
    refine s_173 (by omega) (by omega) (Or.inr (by omega)) (Or.inl rfl) (Or.inl rfl) (Or.inl rfl) (Or.inl rfl) ?_
    rw [show spa (spa (spa (spa (spa (32 * (111 - 96) + (119 - 96)) 110) 0) 0) 0) 0 = wC (cw 9) by decide +kernel]
    refine q_28 ?_
    exact k
  · refine q_3 rfl ?_
    refine q_24E (t := 248) (rfl) ?_
    refine q_0 ?_
    refine q_0 ?_
    refine q_0 ?_
    refine q_0 ?_
    refine q_0 ?_
    refine q_0 ?_
    refine q_0 ?_
    refine q_48 (mj_ev_mono _) [_, _, _, _, _, _, _] rfl rfl rfl rfl rfl ?_
    refine s_173 (by omega) (by omega) (Or.inr (by omega)) (Or.inr (by omega)) (Or.inl rfl) (Or.inl rfl) (Or.inl rfl) ?_
    rw [show spa (spa (spa (spa (spa (32 * (115 - 96) + (105 - 96)) 122) 101) 0) 0) 0 = wC (cw 10) by decide +kernel]
    refine q_28 ?_
    exact k
  · refine q_3 rfl ?_
    refine q_24E (t := 263) (rfl) ?_
    refine q_0 ?_
    refine q_0 ?_
    refine q_0 ?_
    refine q_0 ?_
    refine q_0 ?_
    refine q_0 ?_
    refine q_0 ?_
    refine q_48 (mj_ev_mono _) [_, _, _, _, _, _, _] rfl rfl rfl rfl rfl ?_
    refine s_173 (by omega) (by omega) (Or.inr (by omega)) (Or.inr (by omega)) (Or.inr (by omega)) (Or.inr (by omega)) (Or.inr (by omega)) ?_
    rw [show spa (spa (spa (spa (spa (32 * (115 - 96) + (116 - 96)) 114) 105) 112) 101) 100 = wC (cw 11) by decide +kernel]
    refine q_28 ?_
    exact k
  · refine q_3 rfl ?_
    refine q_24E (t := 281) (rfl) ?_
    refine q_0 ?_
    refine q_0 ?_
    refine q_0 ?_
    refine q_0 ?_
    refine q_0 ?_
    refine q_0 ?_
    refine q_0 ?_
    refine q_48 (mj_ev_mono _) [_, _, _, _, _, _, _] rfl rfl rfl rfl rfl ?_
    refine s_173 (by omega) (by omega) (Or.inr (by omega)) (Or.inr (by omega)) (Or.inr (by omega)) (Or.inr (by omega)) (Or.inl rfl) ?_
    rw [show spa (spa (spa (spa (spa (32 * (97 - 96) + (114 - 96)) 103) 121) 108) 101) 0 = wC (cw 12) by decide +kernel]
    refine q_28 ?_
    exact k
  · refine q_3 rfl ?_
    refine q_24E (t := 298) (rfl) ?_
    refine q_0 ?_
    refine q_0 ?_
    refine q_0 ?_
    refine q_0 ?_
    refine q_0 ?_
    refine q_0 ?_
    refine q_0 ?_
    refine q_48 (mj_ev_mono _) [_, _, _, _, _, _, _] rfl rfl rfl rfl rfl ?_
    refine s_173 (by omega) (by omega) (Or.inr (by omega)) (Or.inr (by omega)) (Or.inr (by omega)) (Or.inr (by omega)) (Or.inl rfl) ?_
    rw [show spa (spa (spa (spa (spa (32 * (104 - 96) + (101 - 96)) 101) 108) 101) 100) 0 = wC (cw 13) by decide +kernel]
    refine q_28 ?_
    exact k
  · refine q_3 rfl ?_
    refine q_24E (t := 315) (rfl) ?_
    refine q_0 ?_
    refine q_0 ?_
    refine q_0 ?_
    refine q_0 ?_
    refine q_0 ?_
    refine q_0 ?_
    refine q_0 ?_
    refine q_48 (mj_ev_mono _) [_, _, _, _, _, _, _] rfl rfl rfl rfl rfl ?_
    refine s_173 (by omega) (by omega) (Or.inr (by omega)) (Or.inr (by omega)) (Or.inr (by omega)) (Or.inl rfl) (Or.inl rfl) ?_
    rw [show spa (spa (spa (spa (spa (32 * (98 - 96) + (111 - 96)) 117) 110) 100) 0) 0 = wC (cw 14) by decide +kernel]
    refine q_28 ?_
    exact k
  · refine q_3 rfl ?_
    refine q_24E (t := 331) (rfl) ?_
    refine q_0 ?_
    refine q_0 ?_
    refine q_0 ?_
    refine q_0 ?_
    refine q_0 ?_
    refine q_0 ?_
    refine q_0 ?_
    refine q_48 (mj_ev_mono _) [_, _, _, _, _, _, _] rfl rfl rfl rfl rfl ?_
    refine s_173 (by omega) (by omega) (Or.inr (by omega)) (Or.inr (by omega)) (Or.inr (by omega)) (Or.inl rfl) (Or.inl rfl) ?_
    rw [show spa (spa (spa (spa (spa (32 * (108 - 96) + (105 - 96)) 107) 101) 115) 0) 0 = wC (cw 15) by decide +kernel]
    refine q_28 ?_
    exact k
  · refine q_3 rfl ?_
    refine q_24E (t := 347) (rfl) ?_
    refine q_0 ?_
    refine q_0 ?_
    refine q_0 ?_
    refine q_0 ?_
    refine q_0 ?_
    refine q_0 ?_
    refine q_0 ?_
    refine q_48 (mj_ev_mono _) [_, _, _, _, _, _, _] rfl rfl rfl rfl rfl ?_
    refine s_173 (by omega) (by omega) (Or.inr (by omega)) (Or.inl rfl) (Or.inl rfl) (Or.inl rfl) (Or.inl rfl) ?_
    rw [show spa (spa (spa (spa (spa (32 * (97 - 96) + (110 - 96)) 100) 0) 0) 0) 0 = wC (cw 16) by decide +kernel]
    refine q_28 ?_
    exact k
  · refine q_3 rfl ?_
    refine q_24E (t := 361) (rfl) ?_
    refine q_0 ?_
    refine q_0 ?_
    refine q_0 ?_
    refine q_0 ?_
    refine q_0 ?_
    refine q_0 ?_
    refine q_0 ?_
    refine q_48 (mj_ev_mono _) [_, _, _, _, _, _, _] rfl rfl rfl rfl rfl ?_
    refine s_173 (by omega) (by omega) (Or.inl rfl) (Or.inl rfl) (Or.inl rfl) (Or.inl rfl) (Or.inl rfl) ?_
    rw [show spa (spa (spa (spa (spa (32 * (111 - 96) + (114 - 96)) 0) 0) 0) 0) 0 = wC (cw 17) by decide +kernel]
    refine q_28 ?_
    exact k
  · refine q_3 rfl ?_
    refine q_24E (t := 374) (rfl) ?_
    refine q_0 ?_
    refine q_0 ?_
    refine q_0 ?_
    refine q_0 ?_
    refine q_0 ?_
    refine q_0 ?_
    refine q_0 ?_
    refine q_48 (mj_ev_mono _) [_, _, _, _, _, _, _] rfl rfl rfl rfl rfl ?_
    refine s_173 (by omega) (by omega) (Or.inr (by omega)) (Or.inl rfl) (Or.inl rfl) (Or.inl rfl) (Or.inl rfl) ?_
    rw [show spa (spa (spa (spa (spa (32 * (110 - 96) + (111 - 96)) 116) 0) 0) 0) 0 = wC (cw 18) by decide +kernel]
    refine q_28 ?_
    exact k
theorem s_175 (hP : PS t P) (hT : TM b n j I L) (hn : n ≤ 700) (k : Q (.inl (some (.int (mI (mk (tK b n j)))))) (107, I, L, P)) : mj_ev (d + 3) 175 [.ref 73] (107, I, L, P) Q := by
  refine ⟨rfl, ?_⟩
  obtain ⟨h15, h16, h17, h18, h19, h20, h21⟩ := hT
  have tl := tkp_le (b := b) (n := n) (j + 1)
  have dl : tD b n j ≤ 700 := by unfold tD; omega
  have sl := srt_le (tK b n j)
  show mj_run (mj_ev (d + 2)) k175 Q (k175 0) [some (.ref 73), none] [] (107, I, L, P) 0 0
  by_cases hw : tK b n j ≤ 19
  · obtain ⟨hL, hk⟩ := t_word hw
    have s1 : srt (tK b n j) = 1 := srt_1.mpr hw
    rw [s1] at h16
    by_cases h7 : tD b n j ≤ 7
    · have g21 := h21 hw
      rw [show min7 (tD b n j) = tD b n j from by unfold min7; split <;> omega] at g21
      have cl : cod (fun i => b (tB b n j + i) - 96) (tD b n j) < 2 ^ 60 := Nat.lt_of_lt_of_le (cod_lt (f := fun i => b (tB b n j + i) - 96) (k := tD b n j) (fun i hi => by have := hL i hi; show b (tB b n j + i) - 96 < 32; omega)) (Nat.le_trans (Nat.pow_le_pow_right (by decide) h7) (by decide))
      have wl : ∀ v, v < 19 → wC v < 2 ^ 60 := by decide +kernel
      rw [hk, ← kw_find hL] at k
      have L21 : ∀ i, i ≤ 19 → fnd 19 i (fun q => wq b (tB b n j) (tD b n j) (cw q)) = fnd 19 0 (fun q => wq b (tB b n j) (tD b n j) (cw q)) → mj_run (mj_ev (d + 2)) k175 Q (k175 21) [some (.ref 73), some (.int (nI i))] [] (107, I, L, P) 0 0 := by
        refine loop_up ?_ (fun i hi ih => ?_)
        · intro hf
          rw [fnd_end (Nat.le_refl _)] at hf
          rw [← hf] at k
          refine q_3 rfl ?_
          refine q_0 ?_
          refine q_geN (by omega) (by omega) (fun hh => ?_) (fun hh => absurd hh (by omega))
          refine q_1 ?_
          refine q_26 ?_
          exact k
        · intro hf
          have c19 := (mw_cw i hi).2
          cases hq : wq b (tB b n j) (tD b n j) (cw i) with
          | true =>
            rw [fnd_yes hi hq] at hf
            rw [← hf] at k
            have e := (wq_cod c19 hL).mp hq
            refine q_3 rfl ?_
            refine q_0 ?_
            refine q_geN (by omega) (by omega) (fun hh => absurd hh (by omega)) (fun hh => ?_)
            refine q_3 rfl ?_
            refine q_48 (mj_ev_mono _) [_] rfl rfl rfl rfl rfl ?_
            refine s_174 hi ?_
            refine q_5 rfl ?_
            refine q_32 rfl (by decide) ?_
            rw [g21, e]
            refine q_17 ?_
            refine q_neI0 (fun z => absurd ((lg_cmp_eq _ _).mpr rfl) z) (fun _ => ?_)
            refine q_3 rfl ?_
            refine q_26 ?_
            exact k
          | false =>
            rw [fnd_no hi hq] at hf
            have e : ¬ cod (fun i => b (tB b n j + i) - 96) (tD b n j) = wC (cw i) := fun z => by
              rw [(wq_cod c19 hL).mpr z] at hq
              cases hq
            refine q_3 rfl ?_
            refine q_0 ?_
            refine q_geN (by omega) (by omega) (fun hh => absurd hh (by omega)) (fun hh => ?_)
            refine q_3 rfl ?_
            refine q_48 (mj_ev_mono _) [_] rfl rfl rfl rfl rfl ?_
            refine s_174 hi ?_
            refine q_5 rfl ?_
            refine q_32 rfl (by decide) ?_
            rw [g21]
            refine q_17 ?_
            refine q_neI0 (fun _ => ?_) (fun z => absurd (fun q => e ((pk_lEQ (Nat.lt_trans (wl _ c19) (by decide)) (Nat.lt_trans cl (by decide))).mp ((lg_cmp_eq _ _).mp q)).symm) z)
            first | refine q_inc rfl rfl rfl ?_ | refine q_9 rfl rfl rfl ?_
            refine q_23 ?_
            exact ih hf
      refine q_5 rfl ?_
      first | refine q_31E rfl (by decide) h16 ?_ | refine q_31 rfl (by decide) ?_
      refine q_0 ?_
      refine q_neN (by omega) (by omega) (fun hh => absurd hh (by omega)) (fun hh => ?_)
      refine q_5 rfl ?_
      first | refine q_31E rfl (by decide) h18 ?_ | refine q_31 rfl (by decide) ?_
      refine q_0 ?_
      refine q_leN (by omega) (by omega) (fun hh => ?_) (fun hh => absurd hh (by omega))
      refine q_0 ?_
      refine q_6 rfl rfl rfl ?_
      exact L21 0 (by omega) rfl
    · have k19 : tK b n j = 19 := by
        rw [hk]
        unfold kwd
        rw [fnd_none.mpr (fun w _ hw19 => by
          cases e : wq b (tB b n j) (tD b n j) w with
          | false => rfl
          | true =>
            have := (wq_iff.mp e).1
            have h2 := (wT_ok w hw19).1
            omega)]
        rfl
      rw [k19] at k
      refine q_5 rfl ?_
      first | refine q_31E rfl (by decide) h16 ?_ | refine q_31 rfl (by decide) ?_
      refine q_0 ?_
      refine q_neN (by omega) (by omega) (fun hh => absurd hh (by omega)) (fun hh => ?_)
      refine q_5 rfl ?_
      first | refine q_31E rfl (by decide) h18 ?_ | refine q_31 rfl (by decide) ?_
      refine q_0 ?_
      refine q_leN (by omega) (by omega) (fun hh => absurd hh (by omega)) (fun hh => ?_)
      refine q_1 ?_
      refine q_26 ?_
      exact k
  · have s1 : srt (tK b n j) ≠ 1 := fun e => hw (srt_1.mp e)
    rw [show mk (tK b n j) = none from if_neg (by omega)] at k
    refine q_5 rfl ?_
    first | refine q_31E rfl (by decide) h16 ?_ | refine q_31 rfl (by decide) ?_
    refine q_0 ?_
    refine q_neN (by omega) (by omega) (fun hh => ?_) (fun hh => absurd hh (by omega))
    refine q_1 ?_
    refine q_26 ?_
    exact k
theorem s_176G {c : Int32} {p : Int32} (h11 : I 73 11 = nI 0) (h17 : I 73 17 = p) (k : Q (.inl none) (107, mj_upI (mj_upI I 73 11 c) 73 12 p, L, P)) : mj_ev (d + 1) 176 [.ref 73, .int c] (107, I, L, P) Q := by
  refine ⟨rfl, ?_⟩
  have h17' : mj_upI I 73 11 c 73 17 = p := h17
  show mj_run (mj_ev d) k176 Q (k176 0) [some (.ref 73), some (.int c)] [] (107, I, L, P) 0 0
  refine q_5 rfl ?_
  first | refine q_31E rfl (by decide) h11 ?_ | refine q_31 rfl (by decide) ?_
  first | refine q_eqN0 (by omega) (fun hh => ?_) (fun hh => absurd hh (by omega)) | refine q_eqI0 (fun hh => ?_) (fun hh => absurd (by omega) hh)
  refine q_5 rfl ?_
  refine q_3 rfl ?_
  refine q_34 rfl (by decide) ?_
  refine q_5 rfl ?_
  refine q_5 rfl ?_
  first | refine q_31E rfl (by decide) h17' ?_ | refine q_31 rfl (by decide) ?_
  refine q_34 rfl (by decide) ?_
  refine q_25 ?_
  exact k
theorem s_176B {c : Int32} {f : Nat} (h11 : I 73 11 = nI f) (hf : 0 < f) (hf9 : f < 10) (k : Q (.inl none) (107, I, L, P)) : mj_ev (d + 1) 176 [.ref 73, .int c] (107, I, L, P) Q := by
  refine ⟨rfl, ?_⟩
  show mj_run (mj_ev d) k176 Q (k176 0) [some (.ref 73), some (.int c)] [] (107, I, L, P) 0 0
  refine q_5 rfl ?_
  first | refine q_31E rfl (by decide) h11 ?_ | refine q_31 rfl (by decide) ?_
  first | refine q_eqN0 (by omega) (fun hh => absurd hh (by omega)) (fun hh => ?_) | refine q_eqI0 (fun hh => absurd hh (by omega)) (fun hh => ?_)
  refine q_25 ?_
  exact k
theorem s_177G (h11 : I 73 11 = nI 0) (k : Q (.inl (some (.int (nI 1)))) (107, I, L, P)) : mj_ev (d + 1) 177 [.ref 73] (107, I, L, P) Q := by
  refine ⟨rfl, ?_⟩
  show mj_run (mj_ev d) k177 Q (k177 0) [some (.ref 73)] [] (107, I, L, P) 0 0
  refine q_5 rfl ?_
  first | refine q_31E rfl (by decide) h11 ?_ | refine q_31 rfl (by decide) ?_
  first | refine q_neN0 (by omega) (fun hh => absurd hh (by omega)) (fun hh => ?_) | refine q_neI0 (fun hh => absurd hh (by omega)) (fun hh => ?_)
  refine q_0 ?_
  refine q_23 ?_
  refine q_27 (by first | exact Or.inl rfl | exact Or.inr rfl | assumption | (split <;> first | exact Or.inl rfl | exact Or.inr rfl)) ?_
  exact k
theorem s_177B {f : Nat} (h11 : I 73 11 = nI f) (hf : 0 < f) (hf9 : f < 10) (k : Q (.inl (some (.int (nI 0)))) (107, I, L, P)) : mj_ev (d + 1) 177 [.ref 73] (107, I, L, P) Q := by
  refine ⟨rfl, ?_⟩
  show mj_run (mj_ev d) k177 Q (k177 0) [some (.ref 73)] [] (107, I, L, P) 0 0
  refine q_5 rfl ?_
  first | refine q_31E rfl (by decide) h11 ?_ | refine q_31 rfl (by decide) ?_
  first | refine q_neN0 (by omega) (fun hh => ?_) (fun hh => absurd hh (by omega)) | refine q_neI0 (fun hh => ?_) (fun hh => absurd (by omega) hh)
  refine q_0 ?_
  refine q_27 (by first | exact Or.inl rfl | exact Or.inr rfl | assumption | (split <;> first | exact Or.inl rfl | exact Or.inr rfl)) ?_
  exact k
theorem s_178 {c : Nat} (hT : TM b n j I L) (hc : 40 ≤ c) (hc2 : c < 100) (hb : ∀ i, i < n → b i < 256) (k : Q (.inl (some (.int (nI (if tK b n j = c then 1 else 0))))) (107, I, L, P)) : mj_ev (d + 1) 178 [.ref 73, .int (nI c)] (107, I, L, P) Q := by
  refine ⟨rfl, ?_⟩
  obtain ⟨h15, h16, h17, h18, h19, h20, h21⟩ := hT
  have sl := srt_le (tK b n j)
  have kl : tK b n j < 300 := by
    unfold tK knd1
    split
    · omega
    · split
      · have := kwd_le (b := b) (s := tB b n j) (l := wnd b n (tB b n j) - tB b n j)
        omega
      · split
        · omega
        · split
          · have := hb (tB b n j) (by omega)
            omega
          · omega
  show mj_run (mj_ev d) k178 Q (k178 0) [some (.ref 73), some (.int (nI c))] [] (107, I, L, P) 0 0
  by_cases h3 : 40 ≤ tK b n j
  · rw [(srt_3 t_kinds).mpr h3] at h16
    have g20 := h20 h3
    by_cases hcc : tK b n j = c
    · rw [if_pos hcc] at k
      refine q_5 rfl ?_
      first | refine q_31E rfl (by decide) h16 ?_ | refine q_31 rfl (by decide) ?_
      refine q_0 ?_
      refine q_neN (by omega) (by omega) (fun hh => absurd hh (by omega)) (fun hh => ?_)
      refine q_5 rfl ?_
      first | refine q_31E rfl (by decide) g20 ?_ | refine q_31 rfl (by decide) ?_
      refine q_3 rfl ?_
      refine q_neN (by omega) (by omega) (fun hh => absurd hh (by omega)) (fun hh => ?_)
      refine q_0 ?_
      refine q_23 ?_
      refine q_27 (by first | exact Or.inl rfl | exact Or.inr rfl | assumption | (split <;> first | exact Or.inl rfl | exact Or.inr rfl)) ?_
      exact k
    · rw [if_neg hcc] at k
      refine q_5 rfl ?_
      first | refine q_31E rfl (by decide) h16 ?_ | refine q_31 rfl (by decide) ?_
      refine q_0 ?_
      refine q_neN (by omega) (by omega) (fun hh => absurd hh (by omega)) (fun hh => ?_)
      refine q_5 rfl ?_
      first | refine q_31E rfl (by decide) g20 ?_ | refine q_31 rfl (by decide) ?_
      refine q_3 rfl ?_
      refine q_neN (by omega) (by omega) (fun hh => ?_) (fun hh => absurd hh (by omega))
      refine q_0 ?_
      refine q_27 (by first | exact Or.inl rfl | exact Or.inr rfl | assumption | (split <;> first | exact Or.inl rfl | exact Or.inr rfl)) ?_
      exact k
  · rw [if_neg (by omega)] at k
    have s3 : srt (tK b n j) ≠ 3 := fun e => h3 ((srt_3 t_kinds).mp e)
    refine q_5 rfl ?_
    first | refine q_31E rfl (by decide) h16 ?_ | refine q_31 rfl (by decide) ?_
    refine q_0 ?_
    refine q_neN (by omega) (by omega) (fun hh => ?_) (fun hh => absurd hh (by omega))
    refine q_0 ?_
    refine q_27 (by first | exact Or.inl rfl | exact Or.inr rfl | assumption | (split <;> first | exact Or.inl rfl | exact Or.inr rfl)) ?_
    exact k
theorem s_182 {O : List Nat} {v : Nat} (hP : PS t P) (h25 : I 73 25 = nI O.length) (hO : OUT O (I 86)) (hl : O.length < 1400) (k : ∀ I', Eqf (frm [86] [(73, 25)]) I I' → I' 73 25 = nI (O ++ [v]).length → OUT (O ++ [v]) (I' 86) → Q (.inl none) (107, I', L, P)) : mj_ev (d + 1) 182 [.ref 73, .int (nI v)] (107, I, L, P) Q := by
  refine ⟨rfl, ?_⟩
  have h25' : mj_upI I 86 O.length (nI v) 73 25 = nI O.length := h25
  show mj_run (mj_ev d) k182 Q (k182 0) [some (.ref 73), some (.int (nI v))] [] (107, I, L, P) 0 0
  refine q_5 rfl ?_
  refine q_33 rfl (by decide) (hP _ _ _ rfl) ?_
  refine q_5 rfl ?_
  first | refine q_31E rfl (by decide) h25 ?_ | refine q_31E rfl (by decide) h25' ?_ | refine q_31 rfl (by decide) ?_
  refine q_3 rfl ?_
  refine q_42 _ rfl (by decide) rfl (by show _ < 1400; omega) (by decide) ?_
  refine q_5 rfl ?_
  refine q_18 rfl ?_
  first | refine q_31E rfl (by decide) h25 ?_ | refine q_31E rfl (by decide) h25' ?_ | refine q_31 rfl (by decide) ?_
  refine q_0 ?_
  first | refine q_add ?_ | refine q_11 rfl ?_
  refine q_34 rfl (by decide) ?_
  refine q_25 ?_
  refine k _ ((Eqf.rf.up rfl).up rfl) (by rw [upI_s, List.length_append]; rfl) ?_
  exact hO.push
theorem s_182B {o : Nat} {v : Int32} (hP : PS t P) (h25 : I 73 25 = nI o) (hl : o < 1400) (k : ∀ I', Eqf (frm [86] [(73, 25)]) I I' → I' 73 25 = nI (o + 1) → Q (.inl none) (107, I', L, P)) : mj_ev (d + 1) 182 [.ref 73, .int v] (107, I, L, P) Q := by
  refine ⟨rfl, ?_⟩
  have h25' : mj_upI I 86 o v 73 25 = nI o := h25
  show mj_run (mj_ev d) k182 Q (k182 0) [some (.ref 73), some (.int v)] [] (107, I, L, P) 0 0
  refine q_5 rfl ?_
  refine q_33 rfl (by decide) (hP _ _ _ rfl) ?_
  refine q_5 rfl ?_
  first | refine q_31E rfl (by decide) h25 ?_ | refine q_31E rfl (by decide) h25' ?_ | refine q_31 rfl (by decide) ?_
  refine q_3 rfl ?_
  refine q_42 _ rfl (by decide) rfl (by show _ < 1400; omega) (by decide) ?_
  refine q_5 rfl ?_
  refine q_18 rfl ?_
  first | refine q_31E rfl (by decide) h25 ?_ | refine q_31E rfl (by decide) h25' ?_ | refine q_31 rfl (by decide) ?_
  refine q_0 ?_
  first | refine q_add ?_ | refine q_11 rfl ?_
  refine q_34 rfl (by decide) ?_
  refine q_25 ?_
  exact k _ ((Eqf.rf.up rfl).up rfl) upI_s
theorem s_183 {a : Nat} (ha : a < 100) (k : Q (.inl (some (.int (nI (if 14 ≤ a then 1 else 0))))) (107, I, L, P)) : mj_ev (d + 1) 183 [.int (nI a)] (107, I, L, P) Q := by
  refine ⟨rfl, ?_⟩
  show mj_run (mj_ev d) k183 Q (k183 0) [some (.int (nI a))] [] (107, I, L, P) 0 0
  by_cases h : 14 ≤ a
  · rw [if_pos h] at k
    refine q_3 rfl ?_
    refine q_0 ?_
    refine q_ltN (by omega) (by omega) (fun hh => absurd hh (by omega)) (fun hh => ?_)
    refine q_0 ?_
    refine q_23 ?_
    refine q_27 (by first | exact Or.inl rfl | exact Or.inr rfl | assumption | (split <;> first | exact Or.inl rfl | exact Or.inr rfl)) ?_
    exact k
  · rw [if_neg h] at k
    refine q_3 rfl ?_
    refine q_0 ?_
    refine q_ltN (by omega) (by omega) (fun hh => ?_) (fun hh => absurd hh (by omega))
    refine q_0 ?_
    refine q_27 (by first | exact Or.inl rfl | exact Or.inr rfl | assumption | (split <;> first | exact Or.inl rfl | exact Or.inr rfl)) ?_
    exact k
theorem s_184 {a : Nat} (ha : 3 ≤ a) (ha2 : a ≤ 11) (k : Q (.inl (some (.int (nI (stg a))))) (107, I, L, P)) : mj_ev (d + 1) 184 [.int (nI a)] (107, I, L, P) Q := by
  refine ⟨rfl, ?_⟩
  show mj_run (mj_ev d) k184 Q (k184 0) [some (.int (nI a))] [] (107, I, L, P) 0 0
  obtain rfl | rfl | rfl | rfl | rfl | rfl | rfl | rfl | rfl : a = 3 ∨ a = 4 ∨ a = 5 ∨ a = 6 ∨ a = 7 ∨ a = 8 ∨ a = 9 ∨ a = 10 ∨ a = 11 := by omega
  · refine q_3 rfl ?_
    refine q_0 ?_
    refine q_neN (by omega) (by omega) (fun hh => ?_) (fun hh => absurd hh (by omega))
    refine q_3 rfl ?_
    refine q_0 ?_
    refine q_neN (by omega) (by omega) (fun hh => ?_) (fun hh => absurd hh (by omega))
    refine q_3 rfl ?_
    refine q_0 ?_
    refine q_neN (by omega) (by omega) (fun hh => absurd hh (by omega)) (fun hh => ?_)
    refine q_0 ?_
    refine q_23 ?_
    refine q_26 ?_
    exact k
  · refine q_3 rfl ?_
    refine q_0 ?_
    refine q_neN (by omega) (by omega) (fun hh => ?_) (fun hh => absurd hh (by omega))
    refine q_3 rfl ?_
    refine q_0 ?_
    refine q_neN (by omega) (by omega) (fun hh => absurd hh (by omega)) (fun hh => ?_)
    refine q_0 ?_
    refine q_23 ?_
    refine q_26 ?_
    exact k
  · refine q_3 rfl ?_
    refine q_0 ?_
    refine q_neN (by omega) (by omega) (fun hh => absurd hh (by omega)) (fun hh => ?_)
    refine q_0 ?_
    refine q_23 ?_
    refine q_26 ?_
    exact k
  · refine q_3 rfl ?_
    refine q_0 ?_
    refine q_neN (by omega) (by omega) (fun hh => ?_) (fun hh => absurd hh (by omega))
    refine q_3 rfl ?_
    refine q_0 ?_
    refine q_neN (by omega) (by omega) (fun hh => ?_) (fun hh => absurd hh (by omega))
    refine q_3 rfl ?_
    refine q_0 ?_
    refine q_neN (by omega) (by omega) (fun hh => ?_) (fun hh => absurd hh (by omega))
    refine q_3 rfl ?_
    refine q_0 ?_
    refine q_eqN (by omega) (by omega) (fun hh => ?_) (fun hh => absurd hh (by omega))
    refine q_0 ?_
    refine q_23 ?_
    refine q_26 ?_
    exact k
  · refine q_3 rfl ?_
    refine q_0 ?_
    refine q_neN (by omega) (by omega) (fun hh => ?_) (fun hh => absurd hh (by omega))
    refine q_3 rfl ?_
    refine q_0 ?_
    refine q_neN (by omega) (by omega) (fun hh => ?_) (fun hh => absurd hh (by omega))
    refine q_3 rfl ?_
    refine q_0 ?_
    refine q_neN (by omega) (by omega) (fun hh => ?_) (fun hh => absurd hh (by omega))
    refine q_3 rfl ?_
    refine q_0 ?_
    refine q_eqN (by omega) (by omega) (fun hh => absurd hh (by omega)) (fun hh => ?_)
    refine q_3 rfl ?_
    refine q_0 ?_
    refine q_neN (by omega) (by omega) (fun hh => absurd hh (by omega)) (fun hh => ?_)
    refine q_0 ?_
    refine q_23 ?_
    refine q_26 ?_
    exact k
  · refine q_3 rfl ?_
    refine q_0 ?_
    refine q_neN (by omega) (by omega) (fun hh => ?_) (fun hh => absurd hh (by omega))
    refine q_3 rfl ?_
    refine q_0 ?_
    refine q_neN (by omega) (by omega) (fun hh => ?_) (fun hh => absurd hh (by omega))
    refine q_3 rfl ?_
    refine q_0 ?_
    refine q_neN (by omega) (by omega) (fun hh => ?_) (fun hh => absurd hh (by omega))
    refine q_3 rfl ?_
    refine q_0 ?_
    refine q_eqN (by omega) (by omega) (fun hh => absurd hh (by omega)) (fun hh => ?_)
    refine q_3 rfl ?_
    refine q_0 ?_
    refine q_neN (by omega) (by omega) (fun hh => ?_) (fun hh => absurd hh (by omega))
    refine q_3 rfl ?_
    refine q_0 ?_
    refine q_eqN (by omega) (by omega) (fun hh => ?_) (fun hh => absurd hh (by omega))
    refine q_0 ?_
    refine q_23 ?_
    refine q_26 ?_
    exact k
  · refine q_3 rfl ?_
    refine q_0 ?_
    refine q_neN (by omega) (by omega) (fun hh => ?_) (fun hh => absurd hh (by omega))
    refine q_3 rfl ?_
    refine q_0 ?_
    refine q_neN (by omega) (by omega) (fun hh => ?_) (fun hh => absurd hh (by omega))
    refine q_3 rfl ?_
    refine q_0 ?_
    refine q_neN (by omega) (by omega) (fun hh => ?_) (fun hh => absurd hh (by omega))
    refine q_3 rfl ?_
    refine q_0 ?_
    refine q_eqN (by omega) (by omega) (fun hh => absurd hh (by omega)) (fun hh => ?_)
    refine q_3 rfl ?_
    refine q_0 ?_
    refine q_neN (by omega) (by omega) (fun hh => ?_) (fun hh => absurd hh (by omega))
    refine q_3 rfl ?_
    refine q_0 ?_
    refine q_eqN (by omega) (by omega) (fun hh => absurd hh (by omega)) (fun hh => ?_)
    refine q_3 rfl ?_
    refine q_0 ?_
    refine q_neN (by omega) (by omega) (fun hh => absurd hh (by omega)) (fun hh => ?_)
    refine q_0 ?_
    refine q_23 ?_
    refine q_26 ?_
    exact k
  · refine q_3 rfl ?_
    refine q_0 ?_
    refine q_neN (by omega) (by omega) (fun hh => ?_) (fun hh => absurd hh (by omega))
    refine q_3 rfl ?_
    refine q_0 ?_
    refine q_neN (by omega) (by omega) (fun hh => ?_) (fun hh => absurd hh (by omega))
    refine q_3 rfl ?_
    refine q_0 ?_
    refine q_neN (by omega) (by omega) (fun hh => ?_) (fun hh => absurd hh (by omega))
    refine q_3 rfl ?_
    refine q_0 ?_
    refine q_eqN (by omega) (by omega) (fun hh => absurd hh (by omega)) (fun hh => ?_)
    refine q_3 rfl ?_
    refine q_0 ?_
    refine q_neN (by omega) (by omega) (fun hh => ?_) (fun hh => absurd hh (by omega))
    refine q_3 rfl ?_
    refine q_0 ?_
    refine q_eqN (by omega) (by omega) (fun hh => absurd hh (by omega)) (fun hh => ?_)
    refine q_3 rfl ?_
    refine q_0 ?_
    refine q_neN (by omega) (by omega) (fun hh => ?_) (fun hh => absurd hh (by omega))
    refine q_0 ?_
    refine q_26 ?_
    exact k
  · refine q_3 rfl ?_
    refine q_0 ?_
    refine q_neN (by omega) (by omega) (fun hh => ?_) (fun hh => absurd hh (by omega))
    refine q_3 rfl ?_
    refine q_0 ?_
    refine q_neN (by omega) (by omega) (fun hh => ?_) (fun hh => absurd hh (by omega))
    refine q_3 rfl ?_
    refine q_0 ?_
    refine q_neN (by omega) (by omega) (fun hh => ?_) (fun hh => absurd hh (by omega))
    refine q_3 rfl ?_
    refine q_0 ?_
    refine q_eqN (by omega) (by omega) (fun hh => absurd hh (by omega)) (fun hh => ?_)
    refine q_3 rfl ?_
    refine q_0 ?_
    refine q_neN (by omega) (by omega) (fun hh => ?_) (fun hh => absurd hh (by omega))
    refine q_3 rfl ?_
    refine q_0 ?_
    refine q_eqN (by omega) (by omega) (fun hh => absurd hh (by omega)) (fun hh => ?_)
    refine q_3 rfl ?_
    refine q_0 ?_
    refine q_neN (by omega) (by omega) (fun hh => ?_) (fun hh => absurd hh (by omega))
    refine q_0 ?_
    refine q_26 ?_
    exact k
theorem s_185 {W O : List Nat} {l : Nat} (hP : PS t P) (hl7 : l ≤ 6) (h28 : I 73 28 = nI W.length) (hW : wst (I 87) W) (ha : ∀ a, a ∈ W → act a) (h25 : I 73 25 = nI O.length) (hO : OUT O (I 86)) (hwl : W.length ≤ 900) (hb : O.length + W.length ≤ 1400) (k : ∀ I', Eqf (frm [86] [(73, 25), (73, 28)]) I I' → I' 73 28 = nI (dpr l W).length → I' 73 25 = nI (O ++ dpd l W).length → OUT (O ++ dpd l W) (I' 86) → Q (.inl none) (107, I', L, P)) : mj_ev (d + 2) 185 [.ref 73, .int (nI l)] (107, I, L, P) Q := by
  refine ⟨rfl, ?_⟩
  have main : ∀ (W' : List Nat) (O' : List Nat) (I' : mj_I), Eqf (frm [86] [(73, 25), (73, 28)]) I I' → wst (I' 87) W' → (∀ a, a ∈ W' → act a) → I' 73 28 = nI W'.length → I' 73 25 = nI O'.length → OUT O' (I' 86) → W'.length ≤ 900 → O'.length + W'.length ≤ 1400 → dpr l W' = dpr l W → O' ++ dpd l W' = O ++ dpd l W → mj_run (mj_ev (d + 1)) k185 Q (k185 0) [some (.ref 73), some (.int (nI l))] [] (107, I', L, P) 0 0 := by
    intro W'
    induction W' with
    | nil =>
      intro O' I' E hW' _ g28 g25 gO _ _ e1 e2
      rw [show dpd l [] = [] from rfl, List.append_nil] at e2
      have g28' : I' 73 28 = nI 0 := g28
      refine q_5 rfl ?_
      first | refine q_31E rfl (by decide) g28' ?_ | refine q_31 rfl (by decide) ?_
      first | refine q_leN0 (by omega) (fun hh => ?_) (fun hh => absurd hh (by omega)) | refine q_leI0 (fun hh => ?_) (fun hh => absurd (by omega) hh)
      refine q_25 ?_
      exact k I' E (by rw [← e1]; exact g28) (by rw [← e2]; exact g25) (by rw [← e2]; exact gO)
    | cons a W' ih =>
      intro O' I' E hW' ha' g28 g25 gO hl9 hb' e1 e2
      have aa := ha' a List.mem_cons_self
      have v1 : I' 87 W'.length = nI a := hW'.1
      rw [List.length_cons] at hl9 hb'
      have g28' : I' 73 28 = nI (W'.length + 1) := g28
      have al : a < 100 := by rcases aa.2 with q | q <;> omega
      by_cases hop : 14 ≤ a
      · have c1 : ¬ (a < 14 ∧ l ≤ stg a) := fun q => by omega
        rw [show dpr l (a :: W') = a :: W' from if_neg c1] at e1
        rw [show dpd l (a :: W') = [] from if_neg c1, List.append_nil] at e2
        refine q_5 rfl ?_
        first | refine q_31E rfl (by decide) g28' ?_ | refine q_31 rfl (by decide) ?_
        first | refine q_leN0 (by omega) (fun hh => absurd hh (by omega)) (fun hh => ?_) | refine q_leI0 (fun hh => absurd hh (by omega)) (fun hh => ?_)
        refine q_5 rfl ?_
        refine q_33 rfl (by decide) (hP _ _ _ rfl) ?_
        refine q_5 rfl ?_
        first | refine q_31E rfl (by decide) g28' ?_ | refine q_31 rfl (by decide) ?_
        refine q_0 ?_
        first | refine q_sub (by omega) ?_ | refine q_11 rfl ?_
        first | refine q_38E _ rfl (by decide) rfl (by show _ < 950; omega) (by decide) (v1) ?_ | refine q_38 _ rfl (by decide) rfl (by show _ < 950; omega) (by decide) ?_
        refine q_48 (mj_ev_mono _) [_] rfl rfl rfl rfl rfl ?_
        refine s_183 al ?_
        rw [if_pos hop]
        first | refine q_neN0 (by omega) (fun hh => ?_) (fun hh => absurd hh (by omega)) | refine q_neI0 (fun hh => ?_) (fun hh => absurd (by omega) hh)
        refine q_25 ?_
        exact k I' E (by rw [← e1]; exact g28) (by rw [← e2]; exact g25) (by rw [← e2]; exact gO)
      · have a11 : a ≤ 11 := aa.2.resolve_right (by omega)
        have a3 := aa.1
        have sg6 : stg a ≤ 6 := by unfold stg; repeat' split
                                   all_goals omega
        by_cases hst : l ≤ stg a
        · have c1 : a < 14 ∧ l ≤ stg a := ⟨by omega, hst⟩
          rw [show dpr l (a :: W') = dpr l W' from if_pos c1] at e1
          rw [show dpd l (a :: W') = a :: dpd l W' from if_pos c1] at e2
          have g28b : mj_upI I' 73 28 (nI W'.length) 73 28 = nI W'.length := upI_s
          refine q_5 rfl ?_
          first | refine q_31E rfl (by decide) g28' ?_ | refine q_31E rfl (by decide) g28b ?_ | refine q_31 rfl (by decide) ?_
          first | refine q_leN0 (by omega) (fun hh => absurd hh (by omega)) (fun hh => ?_) | refine q_leI0 (fun hh => absurd hh (by omega)) (fun hh => ?_)
          refine q_5 rfl ?_
          refine q_33 rfl (by decide) (hP _ _ _ rfl) ?_
          refine q_5 rfl ?_
          first | refine q_31E rfl (by decide) g28' ?_ | refine q_31E rfl (by decide) g28b ?_ | refine q_31 rfl (by decide) ?_
          refine q_0 ?_
          first | refine q_sub (by omega) ?_ | refine q_11 rfl ?_
          first | refine q_38E _ rfl (by decide) rfl (by show _ < 950; omega) (by decide) (v1) ?_ | refine q_38 _ rfl (by decide) rfl (by show _ < 950; omega) (by decide) ?_
          refine q_48 (mj_ev_mono _) [_] rfl rfl rfl rfl rfl ?_
          refine s_183 al ?_
          rw [if_neg hop]
          first | refine q_neN0 (by omega) (fun hh => absurd hh (by omega)) (fun hh => ?_) | refine q_neI0 (fun hh => absurd hh (by omega)) (fun hh => ?_)
          refine q_5 rfl ?_
          refine q_33 rfl (by decide) (hP _ _ _ rfl) ?_
          refine q_5 rfl ?_
          first | refine q_31E rfl (by decide) g28' ?_ | refine q_31E rfl (by decide) g28b ?_ | refine q_31 rfl (by decide) ?_
          refine q_0 ?_
          first | refine q_sub (by omega) ?_ | refine q_11 rfl ?_
          first | refine q_38E _ rfl (by decide) rfl (by show _ < 950; omega) (by decide) (v1) ?_ | refine q_38 _ rfl (by decide) rfl (by show _ < 950; omega) (by decide) ?_
          refine q_48 (mj_ev_mono _) [_] rfl rfl rfl rfl rfl ?_
          refine s_184 a3 a11 ?_
          refine q_3 rfl ?_
          refine q_ltN (by omega) (by omega) (fun hh => absurd hh (by omega)) (fun hh => ?_)
          refine q_5 rfl ?_
          refine q_18 rfl ?_
          first | refine q_31E rfl (by decide) g28' ?_ | refine q_31E rfl (by decide) g28b ?_ | refine q_31 rfl (by decide) ?_
          refine q_0 ?_
          first | refine q_sub (by omega) ?_ | refine q_11 rfl ?_
          refine q_34 rfl (by decide) ?_
          refine q_5 rfl ?_
          refine q_5 rfl ?_
          refine q_33 rfl (by decide) (hP _ _ _ rfl) ?_
          refine q_5 rfl ?_
          first | refine q_31E rfl (by decide) g28' ?_ | refine q_31E rfl (by decide) g28b ?_ | refine q_31 rfl (by decide) ?_
          first | refine q_38E _ rfl (by decide) rfl (by show _ < 950; omega) (by decide) (v1) ?_ | refine q_38 _ rfl (by decide) rfl (by show _ < 950; omega) (by decide) ?_
          refine q_47 (mj_ev_mono _) [_] rfl rfl rfl (by decide) rfl rfl rfl ?_
          refine s_182 (O := O') hP g25 gO (by omega) (fun I2 e2' f1 f2 => ?_)
          refine q_23 ?_
          exact ih (O' ++ [a]) I2 ((E.up rfl).tr (e2'.to rfl rfl)) (wst_up (fun j _ => e2' 87 j rfl) hW'.2) (fun x hx => ha' x (List.mem_cons_of_mem _ hx)) ((e2' 73 28 rfl).trans upI_s) f1 f2 (by omega) (by rw [List.length_append]; show O'.length + 1 + W'.length ≤ 1400; omega) e1 (by rw [List.append_assoc]; exact e2)
        · have c1 : ¬ (a < 14 ∧ l ≤ stg a) := fun q => hst q.2
          rw [show dpr l (a :: W') = a :: W' from if_neg c1] at e1
          rw [show dpd l (a :: W') = [] from if_neg c1, List.append_nil] at e2
          refine q_5 rfl ?_
          first | refine q_31E rfl (by decide) g28' ?_ | refine q_31 rfl (by decide) ?_
          first | refine q_leN0 (by omega) (fun hh => absurd hh (by omega)) (fun hh => ?_) | refine q_leI0 (fun hh => absurd hh (by omega)) (fun hh => ?_)
          refine q_5 rfl ?_
          refine q_33 rfl (by decide) (hP _ _ _ rfl) ?_
          refine q_5 rfl ?_
          first | refine q_31E rfl (by decide) g28' ?_ | refine q_31 rfl (by decide) ?_
          refine q_0 ?_
          first | refine q_sub (by omega) ?_ | refine q_11 rfl ?_
          first | refine q_38E _ rfl (by decide) rfl (by show _ < 950; omega) (by decide) (v1) ?_ | refine q_38 _ rfl (by decide) rfl (by show _ < 950; omega) (by decide) ?_
          refine q_48 (mj_ev_mono _) [_] rfl rfl rfl rfl rfl ?_
          refine s_183 al ?_
          rw [if_neg hop]
          first | refine q_neN0 (by omega) (fun hh => absurd hh (by omega)) (fun hh => ?_) | refine q_neI0 (fun hh => absurd hh (by omega)) (fun hh => ?_)
          refine q_5 rfl ?_
          refine q_33 rfl (by decide) (hP _ _ _ rfl) ?_
          refine q_5 rfl ?_
          first | refine q_31E rfl (by decide) g28' ?_ | refine q_31 rfl (by decide) ?_
          refine q_0 ?_
          first | refine q_sub (by omega) ?_ | refine q_11 rfl ?_
          first | refine q_38E _ rfl (by decide) rfl (by show _ < 950; omega) (by decide) (v1) ?_ | refine q_38 _ rfl (by decide) rfl (by show _ < 950; omega) (by decide) ?_
          refine q_48 (mj_ev_mono _) [_] rfl rfl rfl rfl rfl ?_
          refine s_184 a3 a11 ?_
          refine q_3 rfl ?_
          refine q_ltN (by omega) (by omega) (fun hh => ?_) (fun hh => absurd hh (by omega))
          refine q_25 ?_
          exact k I' E (by rw [← e1]; exact g28) (by rw [← e2]; exact g25) (by rw [← e2]; exact gO)
  exact main W O I Eqf.rf hW ha h28 h25 hO hwl hb rfl rfl
theorem s_186 {W : List Nat} {a : Nat} (hP : PS t P) (h28 : I 73 28 = nI W.length) (hW : wst (I 87) W) (hl : W.length < 950) (k : ∀ I', Eqf (frm [87] [(73, 28)]) I I' → I' 73 28 = nI (a :: W).length → wst (I' 87) (a :: W) → Q (.inl none) (107, I', L, P)) : mj_ev (d + 1) 186 [.ref 73, .int (nI a)] (107, I, L, P) Q := by
  refine ⟨rfl, ?_⟩
  have h28' : mj_upI I 87 W.length (nI a) 73 28 = nI W.length := h28
  show mj_run (mj_ev d) k186 Q (k186 0) [some (.ref 73), some (.int (nI a))] [] (107, I, L, P) 0 0
  refine q_5 rfl ?_
  refine q_33 rfl (by decide) (hP _ _ _ rfl) ?_
  refine q_5 rfl ?_
  first | refine q_31E rfl (by decide) h28 ?_ | refine q_31E rfl (by decide) h28' ?_ | refine q_31 rfl (by decide) ?_
  refine q_3 rfl ?_
  refine q_42 _ rfl (by decide) rfl (by show _ < 950; omega) (by decide) ?_
  refine q_5 rfl ?_
  refine q_18 rfl ?_
  first | refine q_31E rfl (by decide) h28 ?_ | refine q_31E rfl (by decide) h28' ?_ | refine q_31 rfl (by decide) ?_
  refine q_0 ?_
  first | refine q_add ?_ | refine q_11 rfl ?_
  refine q_34 rfl (by decide) ?_
  refine q_25 ?_
  exact k _ ((Eqf.rf.up rfl).up rfl) upI_s ⟨by rw [upI_c (by decide)]; exact upI_s, wst_up (fun j hj => by rw [upI_c (by decide)]; exact upI_j (by omega)) hW⟩
end M
