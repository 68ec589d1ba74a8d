/-! the class: who is bound at a FAIR, who is unbound; what ALIKE gives ahead of the next FAIRS -/
theorem bst_out {n : Nat} {al : Nat → Nat → Int32} {m : MM} {a : Nat} {acc : Option (Nat × Nat) × Int32} (h : ¬ m a = none) (ha : a < n) : ∀ b, b ≤ n → fld n b (bstF al m a) acc = acc := by
  refine loop_up (fld_end (Nat.le_refl _)) (fun b hb ih => ?_)
  rw [fld_step hb, show bstF al m a acc b = acc from if_neg (fun q => h q.1)]
  exact ih
theorem bal_0 {n k : Nat} {al : Nat → Nat → Int32} {m : MM} (h : (bst n al m).1 = none) : bal n al (k + 1) m = m := by rw [bal, h]
theorem bal_1 {n k : Nat} {al : Nat → Nat → Int32} {m : MM} {q : Nat × Nat} (h : (bst n al m).1 = some q) : bal n al (k + 1) m = bal n al k (bnd m q.1 q.2) := by rw [bal, h]
def bc32 (x : Int32) : Int32 :=
  let x1 := x - ((x.toUInt32 >>> ((nI 1).toUInt32 &&& Int32.toUInt32 31)).toInt32 &&& nI 1431655765)
  let x2 := (x1 &&& nI 858993459) + ((x1.toUInt32 >>> ((nI 2).toUInt32 &&& Int32.toUInt32 31)).toInt32 &&& nI 858993459)
  let x3 := (x2 + (x2.toUInt32 >>> ((nI 4).toUInt32 &&& Int32.toUInt32 31)).toInt32) &&& nI 252645135
  let x4 := x3 + (x3.toUInt32 >>> ((nI 8).toUInt32 &&& Int32.toUInt32 31)).toInt32
  let x5 := x4 + (x4.toUInt32 >>> ((nI 16).toUInt32 &&& Int32.toUInt32 31)).toInt32
  x5 &&& nI 63
theorem bc32_ok : ∀ M, M < 1024 → bc32 (nI M) = nI (cntF (fun i => M.testBit i) 10) := by decide +kernel
theorem bc_mask {p : Nat → Bool} {n : Nat} (hn : n ≤ 10) : bc32 (nI (maskF p n)) = nI (cntF p n) := by
  rw [bc32_ok _ (mask_lt10 p hn)]
  congr 1
  rw [cntF_more _ hn (fun i h1 _ => by rw [tb_mask]; simp; omega)]
  exact cntF_congr (fun i hi => by rw [tb_mask]; simp [hi])
section C
variable {I : mj_I} {L : mj_L} {P : mj_P} {Q : mj_Q} {d n r t a b : Nat} {A : AS} {w : WT} {c h : Nat → Nat} {m : MM} {al : Nat → Nat → Int32}
theorem c_282 {p : Nat → Bool} (hn : n ≤ 10) (k : Q (.inl (some (.int (nI (cntF p n))))) (107, I, L, P)) : mj_ev (d + 1) 282 [.int (nI (maskF p n))] (107, I, L, P) Q := by
  refine ⟨rfl, ?_⟩
  rw [← bc_mask hn] at k
  generalize nI (maskF p n) = x at *
  show mj_run (mj_ev d) k282 Q (k282 0) [some (.int x)] [] (107, I, L, P) 0 0
  refine q_3 rfl ?_
  refine q_3 rfl ?_
  refine q_0 ?_
  refine q_11 rfl ?_
  refine q_0 ?_
  refine q_11 rfl ?_
  refine q_11 rfl ?_
  refine q_6 rfl rfl rfl ?_
  refine q_3 rfl ?_
  refine q_0 ?_
  refine q_11 rfl ?_
  refine q_3 rfl ?_
  refine q_0 ?_
  refine q_11 rfl ?_
  refine q_0 ?_
  refine q_11 rfl ?_
  refine q_11 rfl ?_
  refine q_6 rfl rfl rfl ?_
  refine q_3 rfl ?_
  refine q_3 rfl ?_
  refine q_0 ?_
  refine q_11 rfl ?_
  refine q_11 rfl ?_
  refine q_0 ?_
  refine q_11 rfl ?_
  refine q_6 rfl rfl rfl ?_
  refine q_3 rfl ?_
  refine q_3 rfl ?_
  refine q_0 ?_
  refine q_11 rfl ?_
  refine q_11 rfl ?_
  refine q_6 rfl rfl rfl ?_
  refine q_3 rfl ?_
  refine q_3 rfl ?_
  refine q_0 ?_
  refine q_11 rfl ?_
  refine q_11 rfl ?_
  refine q_6 rfl rfl rfl ?_
  refine q_3 rfl ?_
  refine q_0 ?_
  refine q_11 rfl ?_
  refine q_26 ?_
  exact k
theorem c_159 {g z sq row lg lz : Nat} (hg : mj_sh g = 1) (hz : mj_sh z = 1) (hg7 : g < 107) (hz7 : z < 107) (lg0 : mj_ln g = lg) (lz0 : mj_ln z = lz) (hlg : lg < 10000) (hlz : lz < 10000) (hgz : g ≠ z) (hn10 : n ≤ 10) (bg : sq + 100 ≤ lg) (bz : row + 10 ≤ lz) (hm : gm n m) (hM : ∀ p, p < n → I z (row + p) = mI (m p)) (hG : ∀ a b, a < b → b < n → m a = none → m b = none → I g (sq + a * 10 + b) = al a b)
    (k : ∀ I', (∀ c, c ≠ z → I' c = I c) → (∀ j, (j < row ∨ row + n ≤ j) → I' z j = I z j) → (∀ p, p < n → I' z (row + p) = mI (bal n al n m p)) → Q (.inl none) (107, I', L, P)) : mj_ev (d + 1) 159 [.ref g, .int (nI sq), .ref z, .int (nI row), .int (nI n)] (107, I, L, P) Q := by
  refine ⟨rfl, ?_⟩
  have L3 : ∀ i, i ≤ n → ∀ (m1 : MM) (I' : mj_I) x6 x7 x8 x9 x10 x11, gm n m1 → (∀ p, m p ≠ none → m1 p ≠ none) → (∀ c, c ≠ z → I' c = I c) → (∀ j, (j < row ∨ row + n ≤ j) → I' z j = I z j) → (∀ p, p < n → I' z (row + p) = mI (m1 p)) → bal n al (n - i) m1 = bal n al n m → mj_run (mj_ev d) k159 Q (k159 3) [some (.ref g), some (.int (nI sq)), some (.ref z), some (.int (nI row)), some (.int (nI n)), some (.int (nI i)), x6, x7, x8, x9, x10, x11] [] (107, I', L, P) 0 0 := by
    refine loop_up ?_ (fun i hi ih => ?_)
    · intro m1 I' x6 x7 x8 x9 x10 x11 hm1 hs h1 h2 h3 hb
      rw [Nat.sub_self] at hb
      refine q_3 rfl ?_
      refine q_3 rfl ?_
      refine q_geN (by omega) (by omega) (fun hh => ?_) (fun hh => absurd hh (by omega))
      refine q_25 ?_
      exact k I' h1 h2 (fun p hp => by rw [← hb]; exact h3 p hp)
    · intro m1 I' x6 x7 x8 x9 x10 x11 hm1 hs h1 h2 h3 hb
      have hG1 : ∀ a b, a < b → b < n → m1 a = none → m1 b = none → I' g (sq + a * 10 + b) = al a b := fun a b ab bn ma mb => by
        rw [h1 g hgz]
        exact hG a b ab bn (Classical.byContradiction fun q => hs a q ma) (Classical.byContradiction fun q => hs b q mb)
      have m31 : ∀ p, p < n → ∀ q, m1 p = some q → q < 2 ^ 31 := fun p hp q hq => by
        have := (hm1 p hp q hq).1
        omega
      rw [show n - i = (n - (i + 1)) + 1 by omega] at hb
      have out : ∀ x9 x10 x11, mj_run (mj_ev d) k159 Q (k159 107) [some (.ref g), some (.int (nI sq)), some (.ref z), some (.int (nI row)), some (.int (nI n)), some (.int (nI i)), some (.int (bst n al m1).2), some (.int (mI ((bst n al m1).1.map (·.1)))), some (.int (mI ((bst n al m1).1.map (·.2)))), x9, x10, x11] [] (107, I', L, P) 0 0 := by
        intro x9 x10 x11
        cases hbs : (bst n al m1).1 with
        | none =>
          rw [bal_0 hbs] at hb
          have hb' : m1 = bal n al n m := hb
          refine q_3 rfl ?_
          refine q_1 ?_
          refine q_neI (fun q => absurd rfl q) (fun _ => ?_)
          refine q_25 ?_
          exact k I' h1 h2 (fun p hp => by rw [← hb']; exact h3 p hp)
        | some q =>
          rw [bal_1 hbs] at hb
          have hb' : bal n al (n - (i + 1)) (bnd m1 q.1 q.2) = bal n al n m := hb
          obtain ⟨g1, g2, g3, g4, -⟩ := bst_ok q hbs
          refine q_3 rfl ?_
          refine q_1 ?_
          refine q_neI (fun _ => ?_) (fun y => absurd (mI_ne (show q.1 < 2 ^ 31 by omega)) y)
          refine q_5 rfl ?_
          refine q_3 rfl ?_
          refine q_3 rfl ?_
          refine q_add (v := q.1) ?_
          refine q_3 rfl ?_
          refine q_42 (row + q.1) hz hz7 rfl (by omega) (by omega) ?_
          refine q_5 rfl ?_
          refine q_3 rfl ?_
          refine q_3 rfl ?_
          refine q_add (v := q.2) ?_
          refine q_3 rfl ?_
          refine q_42 (row + q.2) hz hz7 rfl (by omega) (by omega) ?_
          refine q_inc rfl rfl rfl ?_
          refine q_23 ?_
          refine ih (bnd m1 q.1 q.2) _ _ _ _ _ _ _ (gm_bnd hm1 (by omega) g2 (by omega) g3 g4) (fun p hp => ?_) (fun c hc => ?_) (fun j hj => ?_) (fun p hp => ?_) hb'
          · unfold bnd
            by_cases e1 : p = q.2
            · rw [if_pos e1]; exact fun y => by cases y
            · by_cases e2 : p = q.1
              · rw [if_neg e1, if_pos e2]; exact fun y => by cases y
              · rw [if_neg e1, if_neg e2]; exact hs p hp
          · rw [upI_c hc, upI_c hc]
            exact h1 c hc
          · rw [upI_j (by omega), upI_j (by omega)]
            exact h2 j hj
          · unfold bnd
            by_cases e1 : p = q.2
            · rw [e1, upI_s, if_pos rfl]
              rfl
            · rw [upI_j (by omega), if_neg e1]
              by_cases e2 : p = q.1
              · rw [e2, upI_s, if_pos rfl]
                rfl
              · rw [upI_j (by omega), if_neg e2]
                exact h3 p hp
      have L22 : ∀ a, a ≤ n → ∀ (acc : Option (Nat × Nat) × Int32) x10 x11, fld n a (fun acc a => fld n (a + 1) (bstF al m1 a) acc) acc = bst n al m1 → mj_run (mj_ev d) k159 Q (k159 22) [some (.ref g), some (.int (nI sq)), some (.ref z), some (.int (nI row)), some (.int (nI n)), some (.int (nI i)), some (.int acc.2), some (.int (mI (acc.1.map (·.1)))), some (.int (mI (acc.1.map (·.2)))), some (.int (nI a)), x10, x11] [] (107, I', L, P) 0 0 := by
        refine loop_up ?_ (fun a ha ih2 => ?_)
        · intro acc x10 x11 hf
          rw [fld_end (Nat.le_refl _)] at hf
          subst hf
          refine q_3 rfl ?_
          refine q_3 rfl ?_
          refine q_geN (by omega) (by omega) (fun hh => ?_) (fun hh => absurd hh (by omega))
          exact out _ _ _
        · intro acc x10 x11 hf
          rw [fld_step ha] at hf
          have wa := h3 a ha
          have L35 : ∀ b, b ≤ n → a + 1 ≤ b → ∀ (acc : Option (Nat × Nat) × Int32) x11, fld n (a + 1) (fun acc a => fld n (a + 1) (bstF al m1 a) acc) (fld n b (bstF al m1 a) acc) = bst n al m1 → mj_run (mj_ev d) k159 Q (k159 35) [some (.ref g), some (.int (nI sq)), some (.ref z), some (.int (nI row)), some (.int (nI n)), some (.int (nI i)), some (.int acc.2), some (.int (mI (acc.1.map (·.1)))), some (.int (mI (acc.1.map (·.2)))), some (.int (nI a)), some (.int (nI b)), x11] [] (107, I', L, P) 0 0 := by
            by_cases hma : m1 a = none
            · rw [hma] at wa
              have wa' : I' z (row + a) = -(nI 1) := wa
              refine loop_up ?_ (fun b hb2 ih3 => ?_)
              · intro _ acc x11 hf
                rw [fld_end (Nat.le_refl _)] at hf
                refine q_5 rfl ?_
                refine q_3 rfl ?_
                refine q_3 rfl ?_
                first | refine q_add ?_ | refine q_11 rfl ?_
                refine q_38E (row + a) hz hz7 rfl (by omega) (by omega) wa' ?_
                refine q_1 ?_
                refine q_neI (fun q => absurd rfl q) (fun _ => ?_)
                refine q_3 rfl ?_
                refine q_3 rfl ?_
                refine q_geN (by omega) (by omega) (fun hh => ?_) (fun hh => absurd hh (by omega))
                first | refine q_inc rfl rfl rfl ?_ | refine q_9 rfl rfl rfl ?_
                refine q_23 ?_
                exact ih2 acc _ _ hf
              · intro hab acc x11 hf
                rw [fld_step hb2] at hf
                have wb := h3 b hb2
                have mb := m31 b hb2
                have nx : bstF al m1 a acc b = acc → ∀ y11, mj_run (mj_ev d) k159 Q (k159 35) [some (.ref g), some (.int (nI sq)), some (.ref z), some (.int (nI row)), some (.int (nI n)), some (.int (nI i)), some (.int acc.2), some (.int (mI (acc.1.map (·.1)))), some (.int (mI (acc.1.map (·.2)))), some (.int (nI a)), some (.int (nI (b + 1))), y11] [] (107, I', L, P) 0 0 := fun e y11 => by
                  rw [e] at hf
                  exact ih3 (by omega) acc y11 hf
                by_cases hmb : m1 b = none
                · have gv := hG1 a b (by omega) hb2 hma hmb
                  by_cases hlt : acc.2 < al a b
                  · have e : bstF al m1 a acc b = (some (a, b), al a b) := if_pos ⟨hma, hmb, hlt⟩
                    rw [e] at hf
                    refine q_5 rfl ?_
                    refine q_3 rfl ?_
                    refine q_3 rfl ?_
                    first | refine q_add ?_ | refine q_11 rfl ?_
                    refine q_38E (row + a) hz hz7 rfl (by omega) (by omega) wa' ?_
                    refine q_1 ?_
                    refine q_neI (fun q => absurd rfl q) (fun _ => ?_)
                    refine q_3 rfl ?_
                    refine q_3 rfl ?_
                    refine q_geN (by omega) (by omega) (fun hh => absurd hh (by omega)) (fun hh => ?_)
                    refine q_5 rfl ?_
                    refine q_3 rfl ?_
                    refine q_3 rfl ?_
                    refine q_0 ?_
                    first | refine q_mul ?_ | refine q_11 rfl ?_
                    first | refine q_add ?_ | refine q_11 rfl ?_
                    refine q_3 rfl ?_
                    first | refine q_add ?_ | refine q_11 rfl ?_
                    refine q_38E (sq + a * 10 + b) hg hg7 rfl (by omega) (by omega) gv ?_
                    refine q_6 rfl rfl rfl ?_
                    refine q_3 rfl ?_
                    refine q_3 rfl ?_
                    refine q_leI (fun k1 => absurd hlt (Int32.not_lt.mpr k1)) (fun _ => ?_)
                    refine q_5 rfl ?_
                    refine q_3 rfl ?_
                    refine q_3 rfl ?_
                    first | refine q_add ?_ | refine q_11 rfl ?_
                    refine q_38E (row + b) hz hz7 rfl (by omega) (by omega) wb ?_
                    refine q_1 ?_
                    refine q_neM mb (fun k2 => absurd hmb k2) (fun _ => ?_)
                    refine q_3 rfl ?_
                    refine q_6 rfl rfl rfl ?_
                    refine q_3 rfl ?_
                    refine q_6 rfl rfl rfl ?_
                    refine q_3 rfl ?_
                    refine q_6 rfl rfl rfl ?_
                    first | refine q_inc rfl rfl rfl ?_ | refine q_9 rfl rfl rfl ?_
                    refine q_23 ?_
                    exact ih3 (by omega) (some (a, b), al a b) _ hf
                  · refine q_5 rfl ?_
                    refine q_3 rfl ?_
                    refine q_3 rfl ?_
                    first | refine q_add ?_ | refine q_11 rfl ?_
                    refine q_38E (row + a) hz hz7 rfl (by omega) (by omega) wa' ?_
                    refine q_1 ?_
                    refine q_neI (fun q => absurd rfl q) (fun _ => ?_)
                    refine q_3 rfl ?_
                    refine q_3 rfl ?_
                    refine q_geN (by omega) (by omega) (fun hh => absurd hh (by omega)) (fun hh => ?_)
                    refine q_5 rfl ?_
                    refine q_3 rfl ?_
                    refine q_3 rfl ?_
                    refine q_0 ?_
                    first | refine q_mul ?_ | refine q_11 rfl ?_
                    first | refine q_add ?_ | refine q_11 rfl ?_
                    refine q_3 rfl ?_
                    first | refine q_add ?_ | refine q_11 rfl ?_
                    refine q_38E (sq + a * 10 + b) hg hg7 rfl (by omega) (by omega) gv ?_
                    refine q_6 rfl rfl rfl ?_
                    refine q_3 rfl ?_
                    refine q_3 rfl ?_
                    refine q_leI (fun _ => ?_) (fun k1 => absurd (Int32.not_le.mp k1) hlt)
                    first | refine q_inc rfl rfl rfl ?_ | refine q_9 rfl rfl rfl ?_
                    refine q_23 ?_
                    exact nx (if_neg (fun q => hlt q.2.2)) _
                · refine q_5 rfl ?_
                  refine q_3 rfl ?_
                  refine q_3 rfl ?_
                  first | refine q_add ?_ | refine q_11 rfl ?_
                  refine q_38E (row + a) hz hz7 rfl (by omega) (by omega) wa' ?_
                  refine q_1 ?_
                  refine q_neI (fun q => absurd rfl q) (fun _ => ?_)
                  refine q_3 rfl ?_
                  refine q_3 rfl ?_
                  refine q_geN (by omega) (by omega) (fun hh => absurd hh (by omega)) (fun hh => ?_)
                  refine q_5 rfl ?_
                  refine q_3 rfl ?_
                  refine q_3 rfl ?_
                  refine q_0 ?_
                  first | refine q_mul ?_ | refine q_11 rfl ?_
                  first | refine q_add ?_ | refine q_11 rfl ?_
                  refine q_3 rfl ?_
                  first | refine q_add ?_ | refine q_11 rfl ?_
                  refine q_38 (sq + a * 10 + b) hg hg7 rfl (by omega) (by omega) ?_
                  refine q_6 rfl rfl rfl ?_
                  refine q_3 rfl ?_
                  refine q_3 rfl ?_
                  refine q_leI (fun k1 => ?_) (fun k1 => ?_)
                  · first | refine q_inc rfl rfl rfl ?_ | refine q_9 rfl rfl rfl ?_
                    refine q_23 ?_
                    exact nx (if_neg (fun q => hmb q.2.1)) _
                  · refine q_5 rfl ?_
                    refine q_3 rfl ?_
                    refine q_3 rfl ?_
                    first | refine q_add ?_ | refine q_11 rfl ?_
                    refine q_38E (row + b) hz hz7 rfl (by omega) (by omega) wb ?_
                    refine q_1 ?_
                    refine q_neM mb (fun _ => ?_) (fun k2 => absurd k2 hmb)
                    first | refine q_inc rfl rfl rfl ?_ | refine q_9 rfl rfl rfl ?_
                    refine q_23 ?_
                    exact nx (if_neg (fun q => hmb q.2.1)) _
            · intro b hb hab acc x11 hf
              rw [bst_out hma ha b hb] at hf
              refine q_5 rfl ?_
              refine q_3 rfl ?_
              refine q_3 rfl ?_
              first | refine q_add ?_ | refine q_11 rfl ?_
              refine q_38E (row + a) hz hz7 rfl (by omega) (by omega) wa ?_
              refine q_1 ?_
              refine q_neM (m31 a ha) (fun _ => ?_) (fun q => absurd q hma)
              first | refine q_inc rfl rfl rfl ?_ | refine q_9 rfl rfl rfl ?_
              refine q_23 ?_
              exact ih2 acc _ _ hf
          refine q_3 rfl ?_
          refine q_3 rfl ?_
          refine q_geN (by omega) (by omega) (fun hh => absurd hh (by omega)) (fun hh => ?_)
          refine q_3 rfl ?_
          refine q_0 ?_
          first | refine q_add ?_ | refine q_11 rfl ?_
          refine q_6 rfl rfl rfl ?_
          exact L35 (a + 1) (by omega) (Nat.le_refl _) acc _ hf
      refine q_3 rfl ?_
      refine q_3 rfl ?_
      refine q_geN (by omega) (by omega) (fun hh => absurd hh (by omega)) (fun hh => ?_)
      refine q_0 ?_
      refine q_6 rfl rfl rfl ?_
      refine q_1 ?_
      refine q_6 rfl rfl rfl ?_
      refine q_1 ?_
      refine q_6 rfl rfl rfl ?_
      refine q_0 ?_
      refine q_6 rfl rfl rfl ?_
      exact L22 0 (by omega) (none, 0) _ _ rfl
  show mj_run (mj_ev d) k159 Q (k159 0) [some (.ref g), some (.int (nI sq)), some (.ref z), some (.int (nI row)), some (.int (nI n)), none, none, none, none, none, none, none] [] (107, I, L, P) 0 0
  refine q_0 ?_
  refine q_6 rfl rfl rfl ?_
  exact L3 0 (by omega) m I _ _ _ _ _ _ hm (fun _ q => q) (fun _ _ => rfl) (fun _ _ => rfl) hM rfl
theorem c_160 {z row lz : Nat} {wn : Nat → Bool} (hz : mj_sh z = 1) (hz7 : z < 107) (lz0 : mj_ln z = lz) (hlz : lz < 10000) (hn10 : n ≤ 10) (bz : row + 10 ≤ lz) (hm : gm n m) (hM : ∀ p, p < n → I z (row + p) = mI (m p))
    (k : ∀ I', (∀ c, c ≠ z → I' c = I c) → (∀ j, (j < row ∨ row + n ≤ j) → I' z j = I z j) → (∀ p, p < n → I' z (row + p) = mI ((prt n wn m).1 p)) → Q (.inl (some (.int (nI (prt n wn m).2)))) (107, I', L, P)) : mj_ev (d + 1) 160 [.int (nI (maskF wn n)), .ref z, .int (nI row), .int (nI n)] (107, I, L, P) Q := by
  refine ⟨rfl, ?_⟩
  have L6 : ∀ p, p ≤ n → ∀ (acc : MM × Nat) (I' : mj_I) x6, gm n acc.1 → (∀ c, c ≠ z → I' c = I c) → (∀ j, (j < row ∨ row + n ≤ j) → I' z j = I z j) → (∀ p, p < n → I' z (row + p) = mI (acc.1 p)) → fld n p (prtF wn) acc = prt n wn m → mj_run (mj_ev d) k160 Q (k160 6) [some (.int (nI (maskF wn n))), some (.ref z), some (.int (nI row)), some (.int (nI n)), some (.int (nI acc.2)), some (.int (nI p)), x6] [] (107, I', L, P) 0 0 := by
    refine loop_up ?_ (fun p hp ih => ?_)
    · intro acc I' x6 hg h1 h2 h3 hf
      rw [fld_end (Nat.le_refl _)] at hf
      subst hf
      refine q_3 rfl ?_
      refine q_3 rfl ?_
      refine q_geN (by omega) (by omega) (fun hh => ?_) (fun hh => absurd hh (by omega))
      refine q_3 rfl ?_
      refine q_26 ?_
      exact k I' h1 h2 h3
    · intro acc I' x6 hg h1 h2 h3 hf
      obtain ⟨m1, x⟩ := acc
      rw [fld_step hp] at hf
      have wp := h3 p hp
      cases hw : wn p with
      | false =>
        rw [prtF_no hw] at hf
        refine q_3 rfl ?_
        refine q_3 rfl ?_
        refine q_geN (by omega) (by omega) (fun hh => absurd hh (by omega)) (fun hh => ?_)
        refine q_5 rfl ?_
        refine q_3 rfl ?_
        refine q_3 rfl ?_
        first | refine q_add ?_ | refine q_11 rfl ?_
        refine q_38E (row + p) hz hz7 rfl (by omega) (by omega) wp ?_
        refine q_6 rfl rfl rfl ?_
        refine q_3 rfl ?_
        refine q_3 rfl ?_
        first | refine q_bitT (by assumption) (by omega) (by omega) ?_ | refine q_bitF (by assumption) (by omega) (by omega) ?_ | refine q_bit (by omega) (by omega) ?_ | refine q_bitM (by first | omega | assumption) (by omega) ?_
        first | refine q_eqN0 (by omega) (fun hh => ?_) (fun hh => absurd hh (by omega)) | refine q_eqI0 (fun hh => ?_) (fun hh => absurd (by omega) hh)
        first | refine q_inc rfl rfl rfl ?_ | refine q_9 rfl rfl rfl ?_
        refine q_23 ?_
        exact ih (m1, x) I' _ hg h1 h2 h3 hf
      | true =>
        cases hq : m1 p with
        | none =>
          rw [prtF_0 hq] at hf
          have wp' : I' z (row + p) = -(nI 1) := by rw [wp]; show mI (m1 p) = _; rw [hq]; rfl
          refine q_3 rfl ?_
          refine q_3 rfl ?_
          refine q_geN (by omega) (by omega) (fun hh => absurd hh (by omega)) (fun hh => ?_)
          refine q_5 rfl ?_
          refine q_3 rfl ?_
          refine q_3 rfl ?_
          first | refine q_add ?_ | refine q_11 rfl ?_
          refine q_38E (row + p) hz hz7 rfl (by omega) (by omega) wp' ?_
          refine q_6 rfl rfl rfl ?_
          refine q_3 rfl ?_
          refine q_3 rfl ?_
          first | refine q_bitT (by assumption) (by omega) (by omega) ?_ | refine q_bitF (by assumption) (by omega) (by omega) ?_ | refine q_bit (by omega) (by omega) ?_ | refine q_bitM (by first | omega | assumption) (by omega) ?_
          first | refine q_eqN0 (by omega) (fun hh => absurd hh (by omega)) (fun hh => ?_) | refine q_eqI0 (fun hh => absurd hh (by omega)) (fun hh => ?_)
          refine q_3 rfl ?_
          refine q_ltI0 (fun hh => ?_) (fun hh => absurd (by decide) hh)
          first | refine q_inc rfl rfl rfl ?_ | refine q_9 rfl rfl rfl ?_
          refine q_23 ?_
          exact ih (m1, x) I' _ hg h1 h2 h3 hf
        | some q =>
          rw [prtF_1 hw hq] at hf
          have wp' : I' z (row + p) = nI q := by rw [wp]; show mI (m1 p) = _; rw [hq]; rfl
          obtain ⟨hqn, hqp, -⟩ := hg p hp q hq
          refine q_3 rfl ?_
          refine q_3 rfl ?_
          refine q_geN (by omega) (by omega) (fun hh => absurd hh (by omega)) (fun hh => ?_)
          refine q_5 rfl ?_
          refine q_3 rfl ?_
          refine q_3 rfl ?_
          first | refine q_add ?_ | refine q_11 rfl ?_
          refine q_38E (row + p) hz hz7 rfl (by omega) (by omega) wp' ?_
          refine q_6 rfl rfl rfl ?_
          refine q_3 rfl ?_
          refine q_3 rfl ?_
          first | refine q_bitT (by assumption) (by omega) (by omega) ?_ | refine q_bitF (by assumption) (by omega) (by omega) ?_ | refine q_bit (by omega) (by omega) ?_ | refine q_bitM (by first | omega | assumption) (by omega) ?_
          first | refine q_eqN0 (by omega) (fun hh => absurd hh (by omega)) (fun hh => ?_) | refine q_eqI0 (fun hh => absurd hh (by omega)) (fun hh => ?_)
          refine q_3 rfl ?_
          first | refine q_ltN0 (by omega) ?_ | refine q_ltI0 (fun hh => absurd hh (by omega)) (fun hh => ?_)
          refine q_5 rfl ?_
          refine q_3 rfl ?_
          refine q_3 rfl ?_
          first | refine q_add ?_ | refine q_11 rfl ?_
          refine q_1 ?_
          refine q_42 (row + p) hz hz7 rfl (by omega) (by omega) ?_
          refine q_5 rfl ?_
          refine q_3 rfl ?_
          refine q_3 rfl ?_
          first | refine q_add ?_ | refine q_11 rfl ?_
          refine q_1 ?_
          refine q_42 (row + q) hz hz7 rfl (by omega) (by omega) ?_
          first | refine q_inc rfl rfl rfl ?_ | refine q_9 rfl rfl rfl ?_
          first | refine q_inc rfl rfl rfl ?_ | refine q_9 rfl rfl rfl ?_
          refine q_23 ?_
          refine ih (unb m1 p q, x + 1) _ _ (gm_unb hg hp hq) (fun c hc => ?_) (fun j hj => ?_) (fun y hy => ?_) hf
          · rw [upI_c hc, upI_c hc]
            exact h1 c hc
          · rw [upI_j (by omega), upI_j (by omega)]
            exact h2 j hj
          · show _ = mI (unb m1 p q y)
            unfold unb
            by_cases e1 : y = q
            · rw [e1, upI_s, if_pos rfl]
              rfl
            · rw [upI_j (by omega), if_neg e1]
              by_cases e2 : y = p
              · rw [e2, upI_s, if_pos rfl]
                rfl
              · rw [upI_j (by omega), if_neg e2]
                exact h3 y hy
  show mj_run (mj_ev d) k160 Q (k160 0) [some (.int (nI (maskF wn n))), some (.ref z), some (.int (nI row)), some (.int (nI n)), none, none, none] [] (107, I, L, P) 0 0
  refine q_0 ?_
  refine q_6 rfl rfl rfl ?_
  refine q_0 ?_
  refine q_6 rfl rfl rfl ?_
  exact L6 0 (by omega) (m, 0) I _ hm (fun _ _ => rfl) (fun _ _ => rfl) hM rfl
end C
