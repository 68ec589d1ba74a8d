/-! the small machine's rows: a row an instruction, for proofs about runs -/
def mj_mono (Φ : mj_F) : Prop := ∀ m as σ (Q Q' : mj_Q), (∀ r s, Q r s → Q' r s) → Φ m as σ Q → Φ m as σ Q'
section R
variable {Φ : mj_F} {code : Nat → List mj_O} {Q : mj_Q} {is : List mj_O} {lo : mj_Lo} {st rest : List Value} {n : Nat} {I : mj_I} {L : mj_L} {P : mj_P} {bc bs pc a b x : Nat}
theorem q_ld (v : Int32) (h : mj_get lo a = some (.int v)) (k : mj_run Φ code Q is lo (.int v :: st) (n, I, L, P) bc bs) : mj_run Φ code Q ((pc, 3, a, b, x) :: is) lo st (n, I, L, P) bc bs := fun G hG => hG _ _ _ _ _ _ ⟨v, h, k G hG⟩
theorem q_0 (k : mj_run Φ code Q is lo (.int (nI a) :: st) (n, I, L, P) bc bs) : mj_run Φ code Q ((pc, 0, a, b, x) :: is) lo st (n, I, L, P) bc bs := fun G hG => hG _ _ _ _ _ _ (k G hG)
theorem q_1 (k : mj_run Φ code Q is lo (.int (-(nI a)) :: st) (n, I, L, P) bc bs) : mj_run Φ code Q ((pc, 1, a, b, x) :: is) lo st (n, I, L, P) bc bs := fun G hG => hG _ _ _ _ _ _ (k G hG)
theorem q_2 (k : mj_run Φ code Q is lo (.long (lN a) :: st) (n, I, L, P) bc bs) : mj_run Φ code Q ((pc, 2, a, b, x) :: is) lo st (n, I, L, P) bc bs := fun G hG => hG _ _ _ _ _ _ (k G hG)
theorem q_3 {v : Int32} (h : mj_get lo a = some (.int v)) (k : mj_run Φ code Q is lo (.int v :: st) (n, I, L, P) bc bs) : mj_run Φ code Q ((pc, 3, a, b, x) :: is) lo st (n, I, L, P) bc bs := fun G hG => hG _ _ _ _ _ _ ⟨v, h, k G hG⟩
theorem q_4 {v : Int64} (h : mj_get lo a = some (.long v)) (k : mj_run Φ code Q is lo (.long v :: st) (n, I, L, P) bc bs) : mj_run Φ code Q ((pc, 4, a, b, x) :: is) lo st (n, I, L, P) bc bs := fun G hG => hG _ _ _ _ _ _ ⟨v, h, k G hG⟩
theorem q_5 {v : Nat} (h : mj_get lo a = some (.ref v)) (k : mj_run Φ code Q is lo (.ref v :: st) (n, I, L, P) bc bs) : mj_run Φ code Q ((pc, 5, a, b, x) :: is) lo st (n, I, L, P) bc bs := fun G hG => hG _ _ _ _ _ _ ⟨v, h, k G hG⟩
theorem q_6 {v : Int32} {lo' : mj_Lo} (h1 : Nat.blt a lo.length = true) (h2 : mj_nlo lo a = true) (h3 : mj_set lo a (some (.int v)) = lo') (k : mj_run Φ code Q is lo' rest (n, I, L, P) bc bs) : mj_run Φ code Q ((pc, 6, a, b, x) :: is) lo (.int v :: rest) (n, I, L, P) bc bs := fun G hG => hG _ _ _ _ _ _ ⟨v, rest, rfl, Nat.le_of_ble_eq_true h1, h2, by rw [h3]; exact k G hG⟩
theorem q_7 {v : Int64} {lo' : mj_Lo} (h1 : Nat.blt (a + 1) lo.length = true) (h2 : mj_nlo lo a = true) (h3 : mj_set (mj_set lo a (some (.long v))) (a + 1) none = lo') (k : mj_run Φ code Q is lo' rest (n, I, L, P) bc bs) : mj_run Φ code Q ((pc, 7, a, b, x) :: is) lo (.long v :: rest) (n, I, L, P) bc bs := fun G hG => hG _ _ _ _ _ _ ⟨v, rest, rfl, Nat.le_of_ble_eq_true h1, h2, by rw [h3]; exact k G hG⟩
theorem q_8 {v : Nat} {lo' : mj_Lo} (h1 : Nat.blt a lo.length = true) (h2 : mj_nlo lo a = true) (h3 : mj_set lo a (some (.ref v)) = lo') (k : mj_run Φ code Q is lo' rest (n, I, L, P) bc bs) : mj_run Φ code Q ((pc, 8, a, b, x) :: is) lo (.ref v :: rest) (n, I, L, P) bc bs := fun G hG => hG _ _ _ _ _ _ ⟨v, rest, rfl, Nat.le_of_ble_eq_true h1, h2, by rw [h3]; exact k G hG⟩
theorem q_9 {v : Int32} {lo' : mj_Lo} (h : mj_get lo a = some (.int v)) (h2 : mj_nlo lo a = true) (h3 : mj_set lo a (some (.int (v + nI b))) = lo') (k : mj_run Φ code Q is lo' st (n, I, L, P) bc bs) : mj_run Φ code Q ((pc, 9, a, b, x) :: is) lo st (n, I, L, P) bc bs := fun G hG => hG _ _ _ _ _ _ ⟨v, h, h2, by rw [h3]; exact k G hG⟩
theorem q_10 {v : Int32} {lo' : mj_Lo} (h : mj_get lo a = some (.int v)) (h2 : mj_nlo lo a = true) (h3 : mj_set lo a (some (.int (v - nI b))) = lo') (k : mj_run Φ code Q is lo' st (n, I, L, P) bc bs) : mj_run Φ code Q ((pc, 10, a, b, x) :: is) lo st (n, I, L, P) bc bs := fun G hG => hG _ _ _ _ _ _ ⟨v, h, h2, by rw [h3]; exact k G hG⟩
theorem q_11 {u v r : Int32} (h : mj_bin a u v = some r) (k : mj_run Φ code Q is lo (.int r :: rest) (n, I, L, P) bc bs) : mj_run Φ code Q ((pc, 11, a, b, x) :: is) lo (.int v :: .int u :: rest) (n, I, L, P) bc bs := fun G hG => hG _ _ _ _ _ _ ⟨u, v, r, rest, rfl, h, k G hG⟩
theorem q_12 {u r : Int32} (h : mj_un a u = some r) (k : mj_run Φ code Q is lo (.int r :: rest) (n, I, L, P) bc bs) : mj_run Φ code Q ((pc, 12, a, b, x) :: is) lo (.int u :: rest) (n, I, L, P) bc bs := fun G hG => hG _ _ _ _ _ _ ⟨u, r, rest, rfl, h, k G hG⟩
theorem q_13 {u v r : Int64} (h : mj_lbin a u v = some r) (k : mj_run Φ code Q is lo (.long r :: rest) (n, I, L, P) bc bs) : mj_run Φ code Q ((pc, 13, a, b, x) :: is) lo (.long v :: .long u :: rest) (n, I, L, P) bc bs := fun G hG => hG _ _ _ _ _ _ ⟨u, v, r, rest, rfl, h, k G hG⟩
theorem q_14 {u : Int64} {v : Int32} (k : mj_run Φ code Q is lo (.long (u <<< (v.toInt64 &&& 63)) :: rest) (n, I, L, P) bc bs) : mj_run Φ code Q ((pc, 14, a, b, x) :: is) lo (.int v :: .long u :: rest) (n, I, L, P) bc bs := fun G hG => hG _ _ _ _ _ _ ⟨u, v, rest, rfl, k G hG⟩
theorem q_15 {v : Int32} (k : mj_run Φ code Q is lo (.long v.toInt64 :: rest) (n, I, L, P) bc bs) : mj_run Φ code Q ((pc, 15, a, b, x) :: is) lo (.int v :: rest) (n, I, L, P) bc bs := fun G hG => hG _ _ _ _ _ _ ⟨v, rest, rfl, k G hG⟩
theorem q_16 {v : Int64} (k : mj_run Φ code Q is lo (.int v.toInt32 :: rest) (n, I, L, P) bc bs) : mj_run Φ code Q ((pc, 16, a, b, x) :: is) lo (.long v :: rest) (n, I, L, P) bc bs := fun G hG => hG _ _ _ _ _ _ ⟨v, rest, rfl, k G hG⟩
theorem q_17 {u v : Int64} (k : mj_run Φ code Q is lo (.int (lg_cmp u v) :: rest) (n, I, L, P) bc bs) : mj_run Φ code Q ((pc, 17, a, b, x) :: is) lo (.long v :: .long u :: rest) (n, I, L, P) bc bs := fun G hG => hG _ _ _ _ _ _ ⟨u, v, rest, rfl, k G hG⟩
theorem q_18 {v : Value} (h : v.category = 1) (k : mj_run Φ code Q is lo (v :: v :: rest) (n, I, L, P) bc bs) : mj_run Φ code Q ((pc, 18, a, b, x) :: is) lo (v :: rest) (n, I, L, P) bc bs := fun G hG => hG _ _ _ _ _ _ ⟨v, rest, rfl, h, k G hG⟩
theorem q_19 {v : Value} (h : v.category = 1) (k : mj_run Φ code Q is lo rest (n, I, L, P) bc bs) : mj_run Φ code Q ((pc, 19, a, b, x) :: is) lo (v :: rest) (n, I, L, P) bc bs := fun G hG => hG _ _ _ _ _ _ ⟨v, rest, rfl, h, k G hG⟩
theorem q_20 {v w : Value} (h : v.category = 1) (h2 : w.category = 1) (k : mj_run Φ code Q is lo (v :: w :: v :: w :: rest) (n, I, L, P) bc bs) : mj_run Φ code Q ((pc, 20, a, b, x) :: is) lo (v :: w :: rest) (n, I, L, P) bc bs := fun G hG => hG _ _ _ _ _ _ ⟨v, w, rest, rfl, h, h2, k G hG⟩
theorem q_21 {v : Int32} (kt : mj_cc a v 0 → mj_run Φ code Q (code b) lo rest (n, I, L, P) bc bs) (kf : ¬ mj_cc a v 0 → mj_run Φ code Q is lo rest (n, I, L, P) bc bs) : mj_run Φ code Q ((pc, 21, a, b, x) :: is) lo (.int v :: rest) (n, I, L, P) bc bs := fun G hG => hG _ _ _ _ _ _ ⟨v, rest, rfl, fun h => kt h G hG, fun h => kf h G hG⟩
theorem q_22 {u v : Int32} (kt : mj_cc a u v → mj_run Φ code Q (code b) lo rest (n, I, L, P) bc bs) (kf : ¬ mj_cc a u v → mj_run Φ code Q is lo rest (n, I, L, P) bc bs) : mj_run Φ code Q ((pc, 22, a, b, x) :: is) lo (.int v :: .int u :: rest) (n, I, L, P) bc bs := fun G hG => hG _ _ _ _ _ _ ⟨u, v, rest, rfl, fun h => kt h G hG, fun h => kf h G hG⟩
theorem q_23 (k : mj_run Φ code Q (code b) lo st (n, I, L, P) bc bs) : mj_run Φ code Q ((pc, 23, a, b, x) :: is) lo st (n, I, L, P) bc bs := fun G hG => hG _ _ _ _ _ _ (k G hG)
theorem q_24 {v : Int32} (k : mj_run Φ code Q (code (mj_sw (mj_swt a) b v)) lo rest (n, I, L, P) bc bs) : mj_run Φ code Q ((pc, 24, a, b, x) :: is) lo (.int v :: rest) (n, I, L, P) bc bs := fun G hG => hG _ _ _ _ _ _ ⟨v, rest, rfl, k G hG⟩
theorem q_25 (k : Q (.inl none) (n, I, L, P)) : mj_run Φ code Q ((pc, 25, a, b, x) :: is) lo [] (n, I, L, P) bc bs := fun G hG => hG _ _ _ _ _ _ ⟨rfl, k⟩
theorem q_26 {v : Int32} (k : Q (.inl (some (.int v))) (n, I, L, P)) : mj_run Φ code Q ((pc, 26, a, b, x) :: is) lo [.int v] (n, I, L, P) bc bs := fun G hG => hG _ _ _ _ _ _ ⟨v, rfl, k⟩
theorem q_27 {v : Int32} (h : v = 0 ∨ v = 1) (k : Q (.inl (some (.int v))) (n, I, L, P)) : mj_run Φ code Q ((pc, 27, a, b, x) :: is) lo [.int v] (n, I, L, P) bc bs := fun G hG => hG _ _ _ _ _ _ ⟨v, rfl, h, k⟩
theorem q_28 {v : Int64} (k : Q (.inl (some (.long v))) (n, I, L, P)) : mj_run Φ code Q ((pc, 28, a, b, x) :: is) lo [.long v] (n, I, L, P) bc bs := fun G hG => hG _ _ _ _ _ _ ⟨v, rfl, k⟩
theorem q_29 {v : Nat} (k : Q (.inl (some (.ref v))) (n, I, L, P)) : mj_run Φ code Q ((pc, 29, a, b, x) :: is) lo [.ref v] (n, I, L, P) bc bs := fun G hG => hG _ _ _ _ _ _ ⟨v, rfl, k⟩
theorem q_30 (h1 : Nat.ble 1 bc = true) (h2 : Nat.ble 6 bs = true) (h3 : Nat.ble (mj_cs st) 8 = true) (h4 : Nat.ble mj_shl.length n = true) (k : Q (.inr a) (n, I, L, P)) : mj_run Φ code Q ((pc, 30, a, b, x) :: is) lo st (n, I, L, P) bc bs := fun G hG => hG _ _ _ _ _ _ ⟨Nat.le_of_ble_eq_true h1, Nat.le_of_ble_eq_true h2, Nat.le_of_ble_eq_true h3, Nat.le_of_ble_eq_true h4, k⟩
theorem q_31 {c : Nat} (h1 : mj_sh c = 10 + a) (h2 : c < n) (k : mj_run Φ code Q is lo (.int (I c b) :: rest) (n, I, L, P) bc bs) : mj_run Φ code Q ((pc, 31, a, b, x) :: is) lo (.ref c :: rest) (n, I, L, P) bc bs := fun G hG => hG _ _ _ _ _ _ ⟨c, rest, rfl, h1, h2, k G hG⟩
theorem q_32 {c : Nat} (h1 : mj_sh c = 10 + a) (h2 : c < n) (k : mj_run Φ code Q is lo (.long (L c b) :: rest) (n, I, L, P) bc bs) : mj_run Φ code Q ((pc, 32, a, b, x) :: is) lo (.ref c :: rest) (n, I, L, P) bc bs := fun G hG => hG _ _ _ _ _ _ ⟨c, rest, rfl, h1, h2, k G hG⟩
theorem q_33 {c r : Nat} (h1 : mj_sh c = 10 + a) (h2 : c < n) (h3 : P c b = some r) (k : mj_run Φ code Q is lo (.ref r :: rest) (n, I, L, P) bc bs) : mj_run Φ code Q ((pc, 33, a, b, x) :: is) lo (.ref c :: rest) (n, I, L, P) bc bs := fun G hG => hG _ _ _ _ _ _ ⟨c, r, rest, rfl, h1, h2, h3, k G hG⟩
theorem q_34 {v : Int32} {c : Nat} (h1 : mj_sh c = 10 + a) (h2 : c < n) (k : mj_run Φ code Q is lo rest (n, mj_upI I c b v, L, P) bc bs) : mj_run Φ code Q ((pc, 34, a, b, x) :: is) lo (.int v :: .ref c :: rest) (n, I, L, P) bc bs := fun G hG => hG _ _ _ _ _ _ ⟨v, c, rest, rfl, h1, h2, k G hG⟩
theorem q_35 {v : Int32} {c : Nat} (h1 : mj_sh c = 10 + a) (h2 : c < n) (h3 : v = 0 ∨ v = 1) (k : mj_run Φ code Q is lo rest (n, mj_upI I c b v, L, P) bc bs) : mj_run Φ code Q ((pc, 35, a, b, x) :: is) lo (.int v :: .ref c :: rest) (n, I, L, P) bc bs := fun G hG => hG _ _ _ _ _ _ ⟨v, c, rest, rfl, h1, h2, h3, k G hG⟩
theorem q_36 {v : Int64} {c : Nat} (h1 : mj_sh c = 10 + a) (h2 : c < n) (k : mj_run Φ code Q is lo rest (n, I, mj_upL L c b v, P) bc bs) : mj_run Φ code Q ((pc, 36, a, b, x) :: is) lo (.long v :: .ref c :: rest) (n, I, L, P) bc bs := fun G hG => hG _ _ _ _ _ _ ⟨v, c, rest, rfl, h1, h2, k G hG⟩
theorem q_37 {v c : Nat} (h1 : mj_sh c = 10 + a) (h2 : c < n) (k : mj_run Φ code Q is lo rest (n, I, L, mj_upP P c b (some v)) bc bs) : mj_run Φ code Q ((pc, 37, a, b, x) :: is) lo (.ref v :: .ref c :: rest) (n, I, L, P) bc bs := fun G hG => hG _ _ _ _ _ _ ⟨v, c, rest, rfl, h1, h2, k G hG⟩
theorem q_38 {c : Nat} (i : Nat) {w : Int32} (h1 : mj_sh c = 1) (h2 : c < n) (hw : w = nI i) (h3 : i < mj_ln c) (h4 : mj_ln c < 2 ^ 31) (k : mj_run Φ code Q is lo (.int (I c i) :: rest) (n, I, L, P) bc bs) : mj_run Φ code Q ((pc, 38, a, b, x) :: is) lo (.int w :: .ref c :: rest) (n, I, L, P) bc bs := fun G hG => hG _ _ _ _ _ _ ⟨w, c, rest, rfl, h1, h2, by rw [hw]; exact vp_in_nI h3 h4, by rw [hw, nI_clamp (by omega)]; exact k G hG⟩
theorem q_39 {c : Nat} (i : Nat) {w : Int32} (h1 : mj_sh c = 2) (h2 : c < n) (hw : w = nI i) (h3 : i < mj_ln c) (h4 : mj_ln c < 2 ^ 31) (k : mj_run Φ code Q is lo (.long (L c i) :: rest) (n, I, L, P) bc bs) : mj_run Φ code Q ((pc, 39, a, b, x) :: is) lo (.int w :: .ref c :: rest) (n, I, L, P) bc bs := fun G hG => hG _ _ _ _ _ _ ⟨w, c, rest, rfl, h1, h2, by rw [hw]; exact vp_in_nI h3 h4, by rw [hw, nI_clamp (by omega)]; exact k G hG⟩
theorem q_40 {c : Nat} (i : Nat) {w : Int32} (h1 : mj_sh c = 3) (h2 : c < n) (hw : w = nI i) (h3 : i < mj_ln c) (h4 : mj_ln c < 2 ^ 31) (k : mj_run Φ code Q is lo (.int (I c i) :: rest) (n, I, L, P) bc bs) : mj_run Φ code Q ((pc, 40, a, b, x) :: is) lo (.int w :: .ref c :: rest) (n, I, L, P) bc bs := fun G hG => hG _ _ _ _ _ _ ⟨w, c, rest, rfl, h1, h2, by rw [hw]; exact vp_in_nI h3 h4, by rw [hw, nI_clamp (by omega)]; exact k G hG⟩
theorem q_41 {c : Nat} (i : Nat) {w : Int32} (h1 : mj_sh c = 4) (h2 : c < n) (hw : w = nI i) (h3 : i < mj_ln c) (h4 : mj_ln c < 2 ^ 31) (k : mj_run Φ code Q is lo (.int (I c i) :: rest) (n, I, L, P) bc bs) : mj_run Φ code Q ((pc, 41, a, b, x) :: is) lo (.int w :: .ref c :: rest) (n, I, L, P) bc bs := fun G hG => hG _ _ _ _ _ _ ⟨w, c, rest, rfl, h1, h2, by rw [hw]; exact vp_in_nI h3 h4, by rw [hw, nI_clamp (by omega)]; exact k G hG⟩
theorem q_42 {c : Nat} (i : Nat) {v w : Int32} (h1 : mj_sh c = 1) (h2 : c < n) (hw : w = nI i) (h3 : i < mj_ln c) (h4 : mj_ln c < 2 ^ 31) (k : mj_run Φ code Q is lo rest (n, mj_upI I c i v, L, P) bc bs) : mj_run Φ code Q ((pc, 42, a, b, x) :: is) lo (.int v :: .int w :: .ref c :: rest) (n, I, L, P) bc bs := fun G hG => hG _ _ _ _ _ _ ⟨v, w, c, rest, rfl, h1, h2, by rw [hw]; exact vp_in_nI h3 h4, by rw [hw, nI_clamp (by omega)]; exact k G hG⟩
theorem q_43 {c : Nat} (i : Nat) {v : Int64} {w : Int32} (h1 : mj_sh c = 2) (h2 : c < n) (hw : w = nI i) (h3 : i < mj_ln c) (h4 : mj_ln c < 2 ^ 31) (k : mj_run Φ code Q is lo rest (n, I, mj_upL L c i v, P) bc bs) : mj_run Φ code Q ((pc, 43, a, b, x) :: is) lo (.long v :: .int w :: .ref c :: rest) (n, I, L, P) bc bs := fun G hG => hG _ _ _ _ _ _ ⟨v, w, c, rest, rfl, h1, h2, by rw [hw]; exact vp_in_nI h3 h4, by rw [hw, nI_clamp (by omega)]; exact k G hG⟩
theorem q_44 {c : Nat} (i : Nat) {v w : Int32} (h1 : mj_sh c = 3) (h2 : c < n) (hw : w = nI i) (h3 : i < mj_ln c) (h4 : mj_ln c < 2 ^ 31) (k : mj_run Φ code Q is lo rest (n, mj_upI I c i (vp_nar .byte v), L, P) bc bs) : mj_run Φ code Q ((pc, 44, a, b, x) :: is) lo (.int v :: .int w :: .ref c :: rest) (n, I, L, P) bc bs := fun G hG => hG _ _ _ _ _ _ ⟨v, w, c, rest, rfl, h1, h2, by rw [hw]; exact vp_in_nI h3 h4, by rw [hw, nI_clamp (by omega)]; exact k G hG⟩
theorem q_45 {c : Nat} (i : Nat) {v w : Int32} (h1 : mj_sh c = 4) (h2 : c < n) (hw : w = nI i) (h3 : i < mj_ln c) (h4 : mj_ln c < 2 ^ 31) (k : mj_run Φ code Q is lo rest (n, mj_upI I c i (vp_nar .boolean v), L, P) bc bs) : mj_run Φ code Q ((pc, 45, a, b, x) :: is) lo (.int v :: .int w :: .ref c :: rest) (n, I, L, P) bc bs := fun G hG => hG _ _ _ _ _ _ ⟨v, w, c, rest, rfl, h1, h2, by rw [hw]; exact vp_in_nI h3 h4, by rw [hw, nI_clamp (by omega)]; exact k G hG⟩
theorem q_46 {c : Nat} (h1 : 1 ≤ mj_sh c) (h2 : mj_sh c ≤ 4) (h3 : c < n) (k : mj_run Φ code Q is lo (.int (nI (mj_ln c)) :: rest) (n, I, L, P) bc bs) : mj_run Φ code Q ((pc, 46, a, b, x) :: is) lo (.ref c :: rest) (n, I, L, P) bc bs := fun G hG => hG _ _ _ _ _ _ ⟨c, rest, rfl, h1, h2, h3, k G hG⟩
theorem q_51 {c : Nat} (h : Nat.ble (mj_cs rest) 8 = true) (k : mj_run Φ code Q is lo rest (n, I, L, P) bc bs) : mj_run Φ code Q ((pc, 51, a, b, x) :: is) lo (.ref c :: rest) (n, I, L, P) bc bs := fun G hG => hG _ _ _ _ _ _ ⟨c, rest, rfl, Nat.le_of_ble_eq_true h, k G hG⟩
theorem q_52 (h1 : mj_sh n = 10 + a) (h2 : Nat.ble 1 bc = true) (h3 : Nat.ble (mj_ln n) bs = true) (k : mj_run Φ code Q is lo (.ref n :: st) (n + 1, mj_seI I n (fun _ => 0), mj_seL L n (fun _ => 0), mj_seP P n (fun _ => none)) (bc - 1) (bs - mj_ln n)) : mj_run Φ code Q ((pc, 52, a, b, x) :: is) lo st (n, I, L, P) bc bs := fun G hG => hG _ _ _ _ _ _ ⟨h1, Nat.le_of_ble_eq_true h2, Nat.le_of_ble_eq_true h3, k G hG⟩
theorem q_53 {v : Int32} (hv : v = nI (mj_ln n)) (h1 : mj_sh n = a) (h2 : Nat.ble 1 bc = true) (h3 : Nat.ble (mj_ln n) bs = true) (k : mj_run Φ code Q is lo (.ref n :: rest) (n + 1, mj_seI I n (fun _ => 0), mj_seL L n (fun _ => 0), mj_seP P n (fun _ => none)) (bc - 1) (bs - mj_ln n)) : mj_run Φ code Q ((pc, 53, a, b, x) :: is) lo (.int v :: rest) (n, I, L, P) bc bs := fun G hG => hG _ _ _ _ _ _ ⟨rest, by rw [hv], h1, Nat.le_of_ble_eq_true h2, Nat.le_of_ble_eq_true h3, k G hG⟩
theorem q_54 {d s0 : Nat} (sp dp m : Nat) {v1 v2 v3 : Int32} (h1 : mj_sh d = 1) (h2 : d < n) (h3 : mj_sh s0 = 1) (h4 : s0 < n) (e1 : v1 = nI sp) (e2 : v2 = nI dp) (e3 : v3 = nI m) (h5 : sp + m ≤ mj_ln s0) (h6 : dp + m ≤ mj_ln d) (h7 : mj_ln s0 < 2 ^ 31) (h8 : mj_ln d < 2 ^ 31) (h9 : Nat.ble (mj_cs rest) 8 = true) (k : mj_run Φ code Q is lo rest (n, mj_seI I d (va_cpy (I s0) (I d) sp dp m), L, P) bc bs) : mj_run Φ code Q ((pc, 54, a, b, x) :: is) lo (.int v3 :: .int v2 :: .ref d :: .int v1 :: .ref s0 :: rest) (n, I, L, P) bc bs := fun G hG => hG _ _ _ _ _ _ ⟨v3, v2, d, v1, s0, rest, rfl, h1, h2, h3, h4, by rw [e1]; exact nI_pos (by omega), by rw [e2]; exact nI_pos (by omega), by rw [e3]; exact nI_pos (by omega), by rw [e1, e3, nI_clamp (by omega), nI_clamp (by omega)]; exact h5, by rw [e2, e3, nI_clamp (by omega), nI_clamp (by omega)]; exact h6, Nat.le_of_ble_eq_true h9, by rw [e1, e2, e3, nI_clamp (by omega), nI_clamp (by omega), nI_clamp (by omega)]; exact k G hG⟩
/-- a call: what its callee's own row says, then on from there -/
theorem q_47 (hm : mj_mono Φ) {c : Nat} (As : List Value) {rest : List Value} {st0 : List Value} (e : st0 = As.reverse ++ .ref c :: rest) (h1 : As.length = mj_mn a) (h2 : mj_sh c = 10 + mj_mo a) (h3 : c < n) (h4 : Nat.ble (mj_cs rest) 8 = true) (h5 : Nat.ble (mj_mc a) bc = true) (h6 : Nat.ble (mj_ms a) bs = true) (k : Φ a (.ref c :: As) (n, I, L, P) (mj_ret (fun s2 σ2 => mj_run Φ code Q is lo s2 σ2 (bc - mj_mc a) (bs - mj_ms a)) Q rest)) : mj_run Φ code Q ((pc, 47, a, b, x) :: is) lo st0 (n, I, L, P) bc bs := fun G hG => hG _ _ _ _ _ _ ⟨c, As, rest, e, h1, h2, h3, Nat.le_of_ble_eq_true h4, Nat.le_of_ble_eq_true h5, Nat.le_of_ble_eq_true h6, hm _ _ _ _ _ (fun r s h => by
  cases r with
  | inl v => cases v with
    | none => exact h G hG
    | some v => exact h G hG
  | inr c => exact h) k⟩
theorem q_48 (hm : mj_mono Φ) (As : List Value) {rest : List Value} {st0 : List Value} (e : st0 = As.reverse ++ rest) (h1 : As.length = mj_mn a) (h4 : Nat.ble (mj_cs rest) 8 = true) (h5 : Nat.ble (mj_mc a) bc = true) (h6 : Nat.ble (mj_ms a) bs = true) (k : Φ a As (n, I, L, P) (mj_ret (fun s2 σ2 => mj_run Φ code Q is lo s2 σ2 (bc - mj_mc a) (bs - mj_ms a)) Q rest)) : mj_run Φ code Q ((pc, 48, a, b, x) :: is) lo st0 (n, I, L, P) bc bs := fun G hG => hG _ _ _ _ _ _ ⟨As, rest, e, h1, Nat.le_of_ble_eq_true h4, Nat.le_of_ble_eq_true h5, Nat.le_of_ble_eq_true h6, hm _ _ _ _ _ (fun r s h => by
  cases r with
  | inl v => cases v with
    | none => exact h G hG
    | some v => exact h G hG
  | inr c => exact h) k⟩
theorem q_49 (hm : mj_mono Φ) {c : Nat} (As : List Value) {rest : List Value} {st0 : List Value} (e : st0 = As.reverse ++ .ref c :: rest) (h1 : As.length = mj_mn a) (h4 : Nat.ble (mj_cs rest) 8 = true) (h5 : Nat.ble (mj_mc a) bc = true) (h6 : Nat.ble (mj_ms a) bs = true) (k : Φ a (.ref c :: As) (n, I, L, P) (mj_retN (fun s2 σ2 => mj_run Φ code Q is lo s2 σ2 (bc - mj_mc a) (bs - mj_ms a)) rest)) : mj_run Φ code Q ((pc, 49, a, b, x) :: is) lo st0 (n, I, L, P) bc bs := fun G hG => hG _ _ _ _ _ _ ⟨c, As, rest, e, h1, Nat.le_of_ble_eq_true h4, Nat.le_of_ble_eq_true h5, Nat.le_of_ble_eq_true h6, hm _ _ _ _ _ (fun r s h => by
  cases r with
  | inl v => cases v with
    | none => exact h G hG
    | some v => exact h G hG
  | inr c => exact h) k⟩
theorem q_50 (hm : mj_mono Φ) (As : List Value) {rest : List Value} {st0 : List Value} (e : st0 = As.reverse ++ rest) (h1 : As.length = mj_mn a) (h4 : Nat.ble (mj_cs rest) 8 = true) (h5 : Nat.ble (mj_mc a) bc = true) (h6 : Nat.ble (mj_ms a) bs = true) (k : Φ a As (n, I, L, P) (mj_retN (fun s2 σ2 => mj_run Φ code Q is lo s2 σ2 (bc - mj_mc a) (bs - mj_ms a)) rest)) : mj_run Φ code Q ((pc, 50, a, b, x) :: is) lo st0 (n, I, L, P) bc bs := fun G hG => hG _ _ _ _ _ _ ⟨As, rest, e, h1, Nat.le_of_ble_eq_true h4, Nat.le_of_ble_eq_true h5, Nat.le_of_ble_eq_true h6, hm _ _ _ _ _ (fun r s h => by
  cases r with
  | inl v => cases v with
    | none => exact h G hG
    | some v => exact h G hG
  | inr c => exact h) k⟩
theorem q_55 (k : mj_run Φ code Q is lo (.retAddr a :: st) (n, I, L, P) bc bs) : mj_run Φ code Q ((pc, 55, a, b, x) :: is) lo st (n, I, L, P) bc bs := fun G hG => hG _ _ _ _ _ _ (k G hG)
theorem q_56 {c : Nat} (h : c < 2) (k : mj_run Φ code Q is lo (.retAddr (2 + c) :: rest) (n, I, L, P) bc bs) : mj_run Φ code Q ((pc, 56, a, b, x) :: is) lo (.retAddr c :: rest) (n, I, L, P) bc bs := fun G hG => hG _ _ _ _ _ _ ⟨c, rest, rfl, h, k G hG⟩
theorem q_57 {c : Nat} (h : c < 2) (k : mj_run Φ code Q is lo (.int 0 :: rest) (n, I, L, P) bc bs) : mj_run Φ code Q ((pc, 57, a, b, x) :: is) lo (.retAddr c :: rest) (n, I, L, P) bc bs := fun G hG => hG _ _ _ _ _ _ ⟨c, rest, rfl, h, k G hG⟩
theorem q_58 (k : mj_run Φ code Q is lo (.int 1 :: st) (n, I, L, P) bc bs) : mj_run Φ code Q ((pc, 58, a, b, x) :: is) lo st (n, I, L, P) bc bs := fun G hG => hG _ _ _ _ _ _ (k G hG)
theorem q_59 (k : mj_run Φ code Q is lo (.retAddr 4 :: st) (n, I, L, P) bc bs) : mj_run Φ code Q ((pc, 59, a, b, x) :: is) lo st (n, I, L, P) bc bs := fun G hG => hG _ _ _ _ _ _ (k G hG)
theorem q_60 {c : Nat} (h : c < 2) (k : mj_run Φ code Q is lo (.int (nI (mj_txt c).length) :: rest) (n, I, L, P) bc bs) : mj_run Φ code Q ((pc, 60, a, b, x) :: is) lo (.retAddr (2 + c) :: rest) (n, I, L, P) bc bs := fun G hG => hG _ _ _ _ _ _ ⟨c, rest, rfl, h, k G hG⟩
theorem q_61 {c : Nat} {i : Int32} (h : c < 2) (hi : vp_in i (mj_txt c).length) (k : mj_run Φ code Q is lo (.int (nI ((mj_txt c).getD i.toNatClampNeg 0)) :: rest) (n, I, L, P) bc bs) : mj_run Φ code Q ((pc, 61, a, b, x) :: is) lo (.int i :: .retAddr (2 + c) :: rest) (n, I, L, P) bc bs := fun G hG => hG _ _ _ _ _ _ ⟨i, c, rest, rfl, h, hi, k G hG⟩
theorem q_63 {v : Nat} (h : mj_get lo a = some (.retAddr v)) (k : mj_run Φ code Q is lo (.retAddr v :: st) (n, I, L, P) bc bs) : mj_run Φ code Q ((pc, 63, a, b, x) :: is) lo st (n, I, L, P) bc bs := fun G hG => hG _ _ _ _ _ _ ⟨v, h, k G hG⟩
theorem q_64 {v : Int32} (h : narrow .char (.int v) = .int v) (k : Q (.inl (some (.int v))) (n, I, L, P)) : mj_run Φ code Q ((pc, 64, a, b, x) :: is) lo [.int v] (n, I, L, P) bc bs := fun _ hG => hG _ _ _ _ _ _ ⟨v, rfl, h, k⟩
theorem q_65 {v : Int32} (h : narrow .byte (.int v) = .int v) (k : Q (.inl (some (.int v))) (n, I, L, P)) : mj_run Φ code Q ((pc, 65, a, b, x) :: is) lo [.int v] (n, I, L, P) bc bs := fun _ hG => hG _ _ _ _ _ _ ⟨v, rfl, h, k⟩
theorem mj_retN_run {G : mj_G} (hG : mj_cl Φ code Q G) {bc bs : Nat} {rest : List Value} : ∀ r s, mj_retN (fun s2 σ2 => mj_run Φ code Q is lo s2 σ2 bc bs) rest r s → mj_retN (fun s2 σ2 => G is lo s2 σ2 bc bs) rest r s := by
  intro r s h
  cases r with
  | inl v => cases v with
    | none => exact h G hG
    | some v => exact h G hG
  | inr c => exact h
theorem q_62 (hm : mj_mono Φ) {c : Nat} (As : List Value) {rest : List Value} {st0 : List Value} (e : st0 = As.reverse ++ .retAddr c :: rest) (h2 : c < 2) (h1 : As.length = mj_mn a) (h4 : Nat.ble (mj_cs rest) 8 = true) (h5 : Nat.ble (mj_mc a) bc = true) (h6 : Nat.ble (mj_ms a) bs = true) (k : Φ a (.retAddr c :: As) (n, I, L, P) (mj_retN (fun s2 σ2 => mj_run Φ code Q is lo s2 σ2 (bc - mj_mc a) (bs - mj_ms a)) rest)) : mj_run Φ code Q ((pc, 62, a, b, x) :: is) lo st0 (n, I, L, P) bc bs := fun G hG => hG _ _ _ _ _ _ ⟨c, As, rest, e, h2, h1, Nat.le_of_ble_eq_true h4, Nat.le_of_ble_eq_true h5, Nat.le_of_ble_eq_true h6, hm _ _ _ _ _ (mj_retN_run hG) k⟩
theorem q_66 (hm : mj_mono Φ) {c : Nat} (As : List Value) {rest : List Value} {st0 : List Value} (e : st0 = As.reverse ++ .ref c :: rest) (h1 : As.length = mj_mn a) (h2 : mj_sh c = 10 + mj_mo a) (h3 : c < n) (h4 : Nat.ble (mj_cs rest) 8 = true) (h5 : Nat.ble (mj_mc a) bc = true) (h6 : Nat.ble (mj_ms a) bs = true) (k : Φ a (.ref c :: As) (n, I, L, P) (mj_retH (fun s2 σ2 => mj_run Φ code Q is lo s2 σ2 (bc - mj_mc a) (bs - mj_ms a)) (fun e σ2 => ∃ q ∈ mj_ht b, q.1 = e ∧ q.2.2 < lo.length ∧ mj_nlo lo q.2.2 = true ∧ mj_run Φ code Q (code q.2.1) (mj_set lo q.2.2 none) [] σ2 (bc - mj_mc a) (bs - mj_ms a)) rest)) : mj_run Φ code Q ((pc, 66, a, b, x) :: is) lo st0 (n, I, L, P) bc bs := fun G hG => hG _ _ _ _ _ _ ⟨c, As, rest, e, h1, h2, h3, Nat.le_of_ble_eq_true h4, Nat.le_of_ble_eq_true h5, Nat.le_of_ble_eq_true h6, hm _ _ _ _ _ (fun r s h => by
  cases r with
  | inl v => cases v with
    | none => exact h G hG
    | some v => exact h G hG
  | inr c =>
    obtain ⟨q, g1, g2, g3, g4, g5⟩ := h
    exact ⟨q, g1, g2, g3, g4, g5 G hG⟩) k⟩
theorem q_67 (hm : mj_mono Φ) {i : Int32} (k : Φ 1000 [.int i] (n, I, L, P) (mj_retN (fun s2 σ2 => mj_run Φ code Q is lo s2 σ2 bc bs) rest)) : mj_run Φ code Q ((pc, 67, a, b, x) :: is) lo (.int i :: .retAddr 5 :: rest) (n, I, L, P) bc bs := fun G hG => hG _ _ _ _ _ _ ⟨i, rest, rfl, hm _ _ _ _ _ (mj_retN_run hG) k⟩
theorem q_68 (hm : mj_mono Φ) (k : Φ 1001 [] (n, I, L, P) (mj_retN (fun s2 σ2 => mj_run Φ code Q is lo s2 σ2 bc bs) rest)) : mj_run Φ code Q ((pc, 68, a, b, x) :: is) lo (.retAddr 5 :: rest) (n, I, L, P) bc bs := fun G hG => hG _ _ _ _ _ _ ⟨rest, rfl, hm _ _ _ _ _ (mj_retN_run hG) k⟩
theorem q_69 (hm : mj_mono Φ) (As : List Value) {rest : List Value} {st0 : List Value} (e : st0 = As.reverse ++ rest) (h1 : As.length = mj_mn a) (h4 : Nat.ble (mj_cs rest) 8 = true) (h5 : Nat.ble (mj_mc a) bc = true) (h6 : Nat.ble (mj_ms a) bs = true) (k : Φ a As (n, I, L, P) (mj_retN (fun s2 σ2 => mj_run Φ code Q is lo s2 σ2 (bc - mj_mc a) (bs - mj_ms a)) rest)) : mj_run Φ code Q ((pc, 69, a, b, x) :: is) lo st0 (n, I, L, P) bc bs := fun G hG => hG _ _ _ _ _ _ ⟨As, rest, e, h1, Nat.le_of_ble_eq_true h4, Nat.le_of_ble_eq_true h5, Nat.le_of_ble_eq_true h6, hm _ _ _ _ _ (mj_retN_run hG) k⟩
end R
theorem mj_ret_mono {G : List Value → mj_S → Prop} {Q Q' : mj_Q} (h : ∀ r s, Q r s → Q' r s) {rest : List Value} : ∀ r s, mj_ret G Q rest r s → mj_ret G Q' rest r s := by
  intro r s k
  cases r with
  | inl v => cases v with
    | none => exact k
    | some v => exact k
  | inr c => exact h _ _ k
/-- a run to Q is a run to what Q gives -/
theorem mj_run_mono {Φ : mj_F} (hm : mj_mono Φ) {code : Nat → List mj_O} {Q Q' : mj_Q} (h : ∀ r s, Q r s → Q' r s) {cs : List mj_O} {lo : mj_Lo} {st : List Value} {σ : mj_S} {bc bs : Nat} (k : mj_run Φ code Q cs lo st σ bc bs) : mj_run Φ code Q' cs lo st σ bc bs := by
  intro G hG
  refine k G (fun cs lo st σ bc bs h1 => hG cs lo st σ bc bs ?_)
  cases cs with
  | nil => exact h1
  | cons o is =>
    obtain ⟨pc, op, a, b, x⟩ := o
    change mj_op Φ code Q G op a b is lo st σ bc bs at h1
    change mj_op Φ code Q' G op a b is lo st σ bc bs
    unfold mj_op at h1 ⊢
    split at h1 <;> first
      | exact h1
      | exact ⟨h1.1, h _ _ h1.2⟩
      | (obtain ⟨v, e, h2⟩ := h1; exact ⟨v, e, h _ _ h2⟩)
      | (obtain ⟨v, e, e2, h2⟩ := h1; exact ⟨v, e, e2, h _ _ h2⟩)
      | (obtain ⟨e1, e2, e3, e4, h2⟩ := h1; exact ⟨e1, e2, e3, e4, h _ _ h2⟩)
      | (obtain ⟨k, As, rest, e1, e2, e3, e4, e5, e6, e7, h2⟩ := h1; exact ⟨k, As, rest, e1, e2, e3, e4, e5, e6, e7, hm _ _ _ _ _ (mj_ret_mono h) h2⟩)
      | (obtain ⟨As, rest, e1, e2, e5, e6, e7, h2⟩ := h1; exact ⟨As, rest, e1, e2, e5, e6, e7, hm _ _ _ _ _ (mj_ret_mono h) h2⟩)
theorem mj_ev_mono : ∀ d, mj_mono (mj_ev d)
  | 0 => fun _ _ _ _ _ _ k => k
  | d + 1 => fun _ _ _ _ _ h k => ⟨k.1, mj_run_mono (mj_ev_mono d) h k.2⟩
section R2
variable {Φ : mj_F} {code : Nat → List mj_O} {Q : mj_Q} {is : List mj_O} {lo lo' : mj_Lo} {st rest : List Value} {σ : mj_S} {bc bs pc a b x : Nat}
/-- sums of small numbers stay small numbers -/
theorem q_add {u v : Nat} (k : mj_run Φ code Q is lo (.int (nI (u + v)) :: rest) σ bc bs) : mj_run Φ code Q ((pc, 11, 0, b, x) :: is) lo (.int (nI v) :: .int (nI u) :: rest) σ bc bs := fun G hG => hG _ _ _ _ _ _ ⟨nI u, nI v, nI u + nI v, rest, rfl, rfl, by rw [nI_add]; exact k G hG⟩
theorem q_mul {u v : Nat} (k : mj_run Φ code Q is lo (.int (nI (u * v)) :: rest) σ bc bs) : mj_run Φ code Q ((pc, 11, 2, b, x) :: is) lo (.int (nI v) :: .int (nI u) :: rest) σ bc bs := fun G hG => hG _ _ _ _ _ _ ⟨nI u, nI v, nI u * nI v, rest, rfl, rfl, by rw [pk_mul]; exact k G hG⟩
theorem q_sub {u v : Nat} (h : v ≤ u) (k : mj_run Φ code Q is lo (.int (nI (u - v)) :: rest) σ bc bs) : mj_run Φ code Q ((pc, 11, 1, b, x) :: is) lo (.int (nI v) :: .int (nI u) :: rest) σ bc bs := fun G hG => hG _ _ _ _ _ _ ⟨nI u, nI v, nI u - nI v, rest, rfl, rfl, by rw [pk_sub h]; exact k G hG⟩
theorem q_inc {u : Nat} (h : mj_get lo a = some (.int (nI u))) (h2 : mj_nlo lo a = true) (h3 : mj_set lo a (some (.int (nI (u + b)))) = lo') (k : mj_run Φ code Q is lo' st σ bc bs) : mj_run Φ code Q ((pc, 9, a, b, x) :: is) lo st σ bc bs := fun G hG => hG _ _ _ _ _ _ ⟨nI u, h, h2, by rw [nI_add, h3]; exact k G hG⟩
/-- the six comparisons of small numbers -/
theorem q_eqN {u v : Nat} (hu : u < 2 ^ 31) (hv : v < 2 ^ 31) (kt : u = v → mj_run Φ code Q (code b) lo rest σ bc bs) (kf : u ≠ v → mj_run Φ code Q is lo rest σ bc bs) : mj_run Φ code Q ((pc, 22, 0, b, x) :: is) lo (.int (nI v) :: .int (nI u) :: rest) σ bc bs := fun G hG => hG _ _ _ _ _ _ ⟨nI u, nI v, rest, rfl, fun h => kt ((nI_eq hu hv).mp h) G hG, fun h => kf (fun e => h ((nI_eq hu hv).mpr e)) G hG⟩
theorem q_neN {u v : Nat} (hu : u < 2 ^ 31) (hv : v < 2 ^ 31) (kt : u ≠ v → mj_run Φ code Q (code b) lo rest σ bc bs) (kf : u = v → mj_run Φ code Q is lo rest σ bc bs) : mj_run Φ code Q ((pc, 22, 1, b, x) :: is) lo (.int (nI v) :: .int (nI u) :: rest) σ bc bs := fun G hG => hG _ _ _ _ _ _ ⟨nI u, nI v, rest, rfl, fun h => kt (fun e => h ((nI_eq hu hv).mpr e)) G hG, fun h => kf ((nI_eq hu hv).mp (Classical.not_not.mp h)) G hG⟩
theorem q_ltN {u v : Nat} (hu : u < 2 ^ 31) (hv : v < 2 ^ 31) (kt : u < v → mj_run Φ code Q (code b) lo rest σ bc bs) (kf : v ≤ u → mj_run Φ code Q is lo rest σ bc bs) : mj_run Φ code Q ((pc, 22, 2, b, x) :: is) lo (.int (nI v) :: .int (nI u) :: rest) σ bc bs := fun G hG => hG _ _ _ _ _ _ ⟨nI u, nI v, rest, rfl, fun h => kt ((nI_ltI hu hv).mp h) G hG, fun h => kf (Nat.le_of_not_lt (fun e => h ((nI_ltI hu hv).mpr e))) G hG⟩
theorem q_geN {u v : Nat} (hu : u < 2 ^ 31) (hv : v < 2 ^ 31) (kt : v ≤ u → mj_run Φ code Q (code b) lo rest σ bc bs) (kf : u < v → mj_run Φ code Q is lo rest σ bc bs) : mj_run Φ code Q ((pc, 22, 3, b, x) :: is) lo (.int (nI v) :: .int (nI u) :: rest) σ bc bs := fun G hG => hG _ _ _ _ _ _ ⟨nI u, nI v, rest, rfl, fun h => kt ((nI_leI hv hu).mp h) G hG, fun h => kf (Nat.lt_of_not_le (fun e => h ((nI_leI hv hu).mpr e))) G hG⟩
theorem q_gtN {u v : Nat} (hu : u < 2 ^ 31) (hv : v < 2 ^ 31) (kt : v < u → mj_run Φ code Q (code b) lo rest σ bc bs) (kf : u ≤ v → mj_run Φ code Q is lo rest σ bc bs) : mj_run Φ code Q ((pc, 22, 4, b, x) :: is) lo (.int (nI v) :: .int (nI u) :: rest) σ bc bs := fun G hG => hG _ _ _ _ _ _ ⟨nI u, nI v, rest, rfl, fun h => kt ((nI_ltI hv hu).mp h) G hG, fun h => kf (Nat.le_of_not_lt (fun e => h ((nI_ltI hv hu).mpr e))) G hG⟩
theorem q_leN {u v : Nat} (hu : u < 2 ^ 31) (hv : v < 2 ^ 31) (kt : u ≤ v → mj_run Φ code Q (code b) lo rest σ bc bs) (kf : v < u → mj_run Φ code Q is lo rest σ bc bs) : mj_run Φ code Q ((pc, 22, 5, b, x) :: is) lo (.int (nI v) :: .int (nI u) :: rest) σ bc bs := fun G hG => hG _ _ _ _ _ _ ⟨nI u, nI v, rest, rfl, fun h => kt ((nI_leI hu hv).mp h) G hG, fun h => kf (Nat.lt_of_not_le (fun e => h ((nI_leI hu hv).mpr e))) G hG⟩
end R2
