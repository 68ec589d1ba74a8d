/-! rows for sets of people as bits -/
theorem mask_bit' (p : Nat → Bool) {k n : Nat} (hn : n ≤ 10) (h : k < 31) : (nI (maskF p n) >>> (nI k &&& 31)) &&& nI 1 = nI (if decide (k < n) && p k then 1 else 0) := by
  rw [sh_b (mask_lt31 p hn) h, tb_dm, tb_mask]
section B
variable {Φ : mj_F} {code : Nat → List mj_O} {Q : mj_Q} {is : List mj_O} {lo : mj_Lo} {rest : List Value} {n : Nat} {I : mj_I} {L : mj_L} {P : mj_P} {bc bs pc b x pc1 b1 x1 pc2 b2 x2 : Nat}
theorem q_bit {p : Nat → Bool} {N k : Nat} (hk : k < N) (hN : N ≤ 10) (kk : mj_run Φ code Q is lo (.int (nI (if p k then 1 else 0)) :: rest) (n, I, L, P) bc bs) : mj_run Φ code Q ((pc, 11, 6, b, x) :: (pc1, 0, 1, b1, x1) :: (pc2, 11, 8, b2, x2) :: is) lo (.int (nI k) :: .int (nI (maskF p N)) :: rest) (n, I, L, P) bc bs := by
  refine q_11 rfl (q_0 (q_11 rfl ?_))
  rw [mask_bit p hN hk]
  exact kk
theorem q_bitT {p : Nat → Bool} {N k : Nat} (hp : p k = true) (hk : k < N) (hN : N ≤ 10) (kk : mj_run Φ code Q is lo (.int (nI 1) :: rest) (n, I, L, P) bc bs) : mj_run Φ code Q ((pc, 11, 6, b, x) :: (pc1, 0, 1, b1, x1) :: (pc2, 11, 8, b2, x2) :: is) lo (.int (nI k) :: .int (nI (maskF p N)) :: rest) (n, I, L, P) bc bs := q_bit hk hN (by rw [hp]; exact kk)
theorem q_bitF {p : Nat → Bool} {N k : Nat} (hp : p k = false) (hk : k < N) (hN : N ≤ 10) (kk : mj_run Φ code Q is lo (.int (nI 0) :: rest) (n, I, L, P) bc bs) : mj_run Φ code Q ((pc, 11, 6, b, x) :: (pc1, 0, 1, b1, x1) :: (pc2, 11, 8, b2, x2) :: is) lo (.int (nI k) :: .int (nI (maskF p N)) :: rest) (n, I, L, P) bc bs := q_bit hk hN (by rw [hp]; exact kk)
theorem q_bitM {M k : Nat} (hM : M < 2 ^ 31) (hk : k < 31) (kk : mj_run Φ code Q is lo (.int (nI (if M.testBit k then 1 else 0)) :: rest) (n, I, L, P) bc bs) : mj_run Φ code Q ((pc, 11, 6, b, x) :: (pc1, 0, 1, b1, x1) :: (pc2, 11, 8, b2, x2) :: is) lo (.int (nI k) :: .int (nI M) :: rest) (n, I, L, P) bc bs := by
  refine q_11 rfl (q_0 (q_11 rfl ?_))
  rw [sh_b hM hk, tb_dm]
  exact kk
theorem q_shl1 {k : Nat} (hk : k < 31) (kk : mj_run Φ code Q is lo (.int (nI (2 ^ k)) :: rest) (n, I, L, P) bc bs) : mj_run Φ code Q ((pc, 11, 5, b, x) :: is) lo (.int (nI k) :: .int (nI 1) :: rest) (n, I, L, P) bc bs := by
  refine q_11 rfl ?_
  rw [sh_1 hk]
  exact kk
theorem q_orN {u v : Nat} (kk : mj_run Φ code Q is lo (.int (nI (u ||| v)) :: rest) (n, I, L, P) bc bs) : mj_run Φ code Q ((pc, 11, 9, b, x) :: is) lo (.int (nI v) :: .int (nI u) :: rest) (n, I, L, P) bc bs := by
  refine q_11 rfl ?_
  rw [nI_or]
  exact kk
theorem q_andN {u v : Nat} (kk : mj_run Φ code Q is lo (.int (nI (u &&& v)) :: rest) (n, I, L, P) bc bs) : mj_run Φ code Q ((pc, 11, 8, b, x) :: is) lo (.int (nI v) :: .int (nI u) :: rest) (n, I, L, P) bc bs := by
  refine q_11 rfl ?_
  rw [nI_and]
  exact kk
theorem q_xorN {u v : Nat} (kk : mj_run Φ code Q is lo (.int (nI (u ^^^ v)) :: rest) (n, I, L, P) bc bs) : mj_run Φ code Q ((pc, 11, 10, b, x) :: is) lo (.int (nI v) :: .int (nI u) :: rest) (n, I, L, P) bc bs := by
  refine q_11 rfl ?_
  rw [nI_xor]
  exact kk
theorem q_andnot {u v : Nat} (kk : mj_run Φ code Q is lo (.int (nI (u ^^^ (u &&& v))) :: rest) (n, I, L, P) bc bs) : mj_run Φ code Q ((pc, 1, 1, b, x) :: (pc1, 11, 10, b1, x1) :: (pc2, 11, 8, b2, x2) :: is) lo (.int (nI v) :: .int (nI u) :: rest) (n, I, L, P) bc bs := by
  refine q_1 (q_11 rfl (q_11 rfl ?_))
  rw [nI_andnot]
  exact kk
end B
theorem b1_iff {b : Bool} : (if b = true then (1 : Nat) else 0) = 1 ↔ b = true := by cases b <;> simp
theorem b0_iff {b : Bool} : (if b = true then (1 : Nat) else 0) = 0 ↔ b = false := by cases b <;> simp
