/-! the law's loop: its rows -/
theorem mj_ev_sc {K : Nat} {xs : Nat → Int32} {d m : Nat} {as : List Value} {σ : mj_S} {Q : mj_Q} (h1 : m ≠ 1000) (h2 : m ≠ 1001) (h : mj_ev d m as σ Q) : mj_sc K xs d m as σ Q := by
  unfold mj_sc
  rw [if_neg h1, if_neg h2]
  exact h
theorem sc_ev {K : Nat} {xs : Nat → Int32} {m : Nat} {as : List Value} {σ : mj_S} {Q' Q : mj_Q} (h1 : m ≠ 1000) (h2 : m ≠ 1001) (h : mj_ev 100 m as σ Q') (k : ∀ r σ', Q' r σ' → Q r σ') : mj_sc K xs 100 m as σ Q := mj_ev_sc h1 h2 (mj_ev_mono _ _ _ _ _ _ k h)
theorem zb {a b : Nat} (h : a = 0) : Nat.ble a b = true := Nat.ble_eq_true_of_le (by omega)
theorem cb {a b k : Nat} (h : a ≤ k) (hb : k ≤ b) : Nat.ble a b = true := Nat.ble_eq_true_of_le (Nat.le_trans h hb)
section R
variable {K p : Nat} {xs : Nat → Int32} {code : Nat → List mj_O} {Q : mj_Q} {is : List mj_O} {lo : mj_Lo} {st rest : List Value} {n : Nat} {I : mj_I} {L : mj_L} {P : mj_P} {bc bs pc a b x : Nat}
theorem q_rd {i : Nat} (hK : K < 2 ^ 31) (hi : i < K) (k : mj_run (mj_sc K xs 100) code Q is lo (.int (xs i) :: rest) (n, I, L, P) bc bs) : mj_run (mj_sc K xs 100) code Q ((pc, 67, a, b, x) :: is) lo (.int (nI i) :: .retAddr 5 :: rest) (n, I, L, P) bc bs := by
  refine q_67 (mj_sc_mono _ _ _) ?_
  refine ⟨nI i, rfl, vp_in_nI hi hK, ?_⟩
  rw [nI_clamp (by omega)]
  exact k
theorem q_len (k : mj_run (mj_sc K xs 100) code Q is lo (.int (nI K) :: rest) (n, I, L, P) bc bs) : mj_run (mj_sc K xs 100) code Q ((pc, 68, a, b, x) :: is) lo (.retAddr 5 :: rest) (n, I, L, P) bc bs := by
  refine q_68 (mj_sc_mono _ _ _) ?_
  exact k
/-- an argument out of the script -/
theorem q_arg {j p1 p2 p3 p4 p5 b1 b2 b3 b4 b5 x1 x2 x3 x4 x5 a5 : Nat} (hK : K ≤ 3072) (hp : p + 6 ≤ K) (hj : j < 6) (h0 : mj_get lo 0 = some (.retAddr 5)) (h4 : mj_get lo 4 = some (.int (nI p))) (k : mj_run (mj_sc K xs 100) code Q is lo (.int (xs (p + j)) :: st) (n, I, L, P) bc bs) : mj_run (mj_sc K xs 100) code Q ((p1, 63, 0, b1, x1) :: (p2, 3, 4, b2, x2) :: (p3, 0, j, b3, x3) :: (p4, 11, 0, b4, x4) :: (p5, 67, a5, b5, x5) :: is) lo st (n, I, L, P) bc bs := by
  refine q_63 h0 ?_
  refine q_3 h4 ?_
  refine q_0 ?_
  refine q_add ?_
  exact q_rd (by omega) (by omega) k
end R
theorem LQ_e {M : Nat} {xs : List Value} {r : mj_R} {n : Nat} {I : mj_I} {L : mj_L} {P : mj_P} (h : LQ M xs r (n, I, L, P)) : ∃ e, r = .inl (some (.int e)) ∧ n = 107 ∧ mj_ev 100 M (.ref 73 :: xs) (n, I, L, P) (LQ2 e) := by
  match r, h with
  | .inl (some (.int e)), h => exact ⟨e, rfl, h.1, h.2⟩
theorem LQb_e {M : Nat} {xs : List Value} {r : mj_R} {n : Nat} {I : mj_I} {L : mj_L} {P : mj_P} (h : LQb M xs r (n, I, L, P)) : ∃ e, r = .inl (some (.int e)) ∧ n = 107 ∧ mj_ev 100 M (.ref 73 :: xs) (n, I, L, P) (LQ2b e) := by
  match r, h with
  | .inl (some (.int e)), h => exact ⟨e, rfl, h.1, h.2⟩
theorem LQ2_e {e : Int32} {r : mj_R} {n : Nat} {I : mj_I} {L : mj_L} {P : mj_P} (h : LQ2 e r (n, I, L, P)) : ∃ v, r = .inl (some (.int v)) ∧ n = 107 ∧ LWV (n, I, L, P) ∧ I 73 0 = e ∧ (e = nI 0 → L 106 0 = v.toInt64) := by
  match r, h with
  | .inl (some (.int v)), h => exact ⟨v, rfl, h.1.1, h.1, h.2.1, h.2.2⟩
theorem LQ2b_e {e : Int32} {r : mj_R} {n : Nat} {I : mj_I} {L : mj_L} {P : mj_P} (h : LQ2b e r (n, I, L, P)) : ∃ v, r = .inl (some (.int v)) ∧ n = 107 ∧ LWV (n, I, L, P) ∧ I 73 0 = e ∧ (e = nI 0 → (v = nI 0 ∨ v = nI 1) ∧ L 106 0 = v.toInt64) := by
  match r, h with
  | .inl (some (.int v)), h => exact ⟨v, rfl, h.1.1, h.1, h.2.1, h.2.2⟩
theorem LD_e {α : Type} {g : α → Option Value} {M : Nat} {xs : List Value} {r : mj_R} {n : Nat} {I : mj_I} {L : mj_L} {P : mj_P} (h : LD g M xs r (n, I, L, P)) : ∃ z, r = .inl (g z) ∧ n = 107 ∧ mj_ev 100 M (.ref 73 :: xs) (n, I, L, P) (LR (g z)) := h
theorem LR_e {v : Option Value} {r : mj_R} {n : Nat} {I : mj_I} {L : mj_L} {P : mj_P} (h : LR v r (n, I, L, P)) : r = .inl v ∧ n = 107 ∧ LWV (n, I, L, P) := ⟨h.2, h.1.1, h.1⟩
/-- on to the next place -/
def KN (K p : Nat) (xs : Nat → Int32) (bc bs : Nat) : Prop := ∀ o5 o6 I L P bc' bs', LWV (107, I, L, P) → bc ≤ bc' + 8 → bs ≤ bs' + 100 → mj_run (mj_sc K xs 100) k323 mj_Q1 (k323 2254) [some (.retAddr 5), some (.ref 0), some (.ref 73), some (.ref 106), some (.int (nI p)), o5, o6] [] (107, I, L, P) bc' bs'
theorem le3 {a b c d k : Nat} (h : a + b + c ≤ k) : d ≤ d - a - b - c + k := by omega
theorem le2 {a b d k : Nat} (h : a + b ≤ k) : d ≤ d - a - b + k := by omega
