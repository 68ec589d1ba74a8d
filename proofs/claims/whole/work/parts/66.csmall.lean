/-! the class: how long one stays bound, the basket, a game -/
def mxN (a b : Nat) : Nat := if a < b then b else a
theorem mxN_or (a b : Nat) : (mxN a b = a ∧ b ≤ a) ∨ (mxN a b = b ∧ a < b) := by
  unfold mxN
  split <;> omega
theorem max_nI {a b : Nat} (ha : a < 2 ^ 31) (hb : b < 2 ^ 31) : (if nI a < nI b then nI b else nI a) = nI (mxN a b) := by
  unfold mxN
  by_cases h : a < b
  · rw [if_pos h, if_pos ((nI_ltI ha hb).mpr h)]
  · rw [if_neg h, if_neg (fun q => h ((nI_ltI ha hb).mp q))]
/-- who is bound stays so at a FAIR's binding -/
theorem bal_keep {n : Nat} {al : Nat → Nat → Int32} {p r : Nat} : ∀ (k : Nat) {m : MM}, m p = some r → bal n al k m p = some r
  | 0, _, h => h
  | k + 1, m, h => by
    cases e : (bst n al m).1 with
    | none => rw [bal_0 e]; exact h
    | some q =>
      rw [bal_1 e]
      obtain ⟨-, -, h3, h4, -⟩ := bst_ok q e
      refine bal_keep k ?_
      have n1 : p ≠ q.2 := fun z => by rw [z, h4] at h; cases h
      have n2 : p ≠ q.1 := fun z => by rw [z, h3] at h; cases h
      show (if p = q.2 then _ else if p = q.1 then _ else m p) = _
      rw [if_neg n1, if_neg n2]
      exact h
/-- two who aren't worn through stay bound -/
theorem prt_keep {n : Nat} {wn : Nat → Bool} {m : MM} {a q : Nat} (hg : gm n m) (ha : a < n) (h : m a = some q) (wa : wn a = false) (wq : wn q = false) : (prt n wn m).1 a = some q := by
  have hh := hg a ha q h
  refine (fld_inv (α := MM × Nat) (n := n) (f := prtF wn) (p := fun _ acc => acc.1 a = some q ∧ gm n acc.1) (i := 0) (acc := (m, 0)) ⟨h, hg⟩ (fun j acc _ hj hacc => ?_) (by omega)).1
  obtain ⟨m1, x⟩ := acc
  obtain ⟨h1, h2⟩ := hacc
  refine ⟨?_, prtF_gm h2 hj⟩
  have h1' : m1 a = some q := h1
  cases hw : wn j with
  | false => rw [prtF_no hw]; exact h1
  | true =>
    cases hr : m1 j with
    | none => rw [prtF_0 hr]; exact h1
    | some r =>
      rw [prtF_1 hw hr]
      have g1 := h2 j hj r hr
      have n1 : a ≠ j := fun z => by rw [← z, wa] at hw; cases hw
      have n2 : a ≠ r := fun z => by
        have := g1.2.2
        have e2 : m1 r = some j := this
        rw [← z, h1'] at e2
        cases e2
        rw [wq] at hw
        cases hw
      show (if a = r then none else if a = j then none else m1 a) = some q
      rw [if_neg n2, if_neg n1]
      exact h1'
/-- who is bound behind it was so -/
theorem prt_sub {n : Nat} {wn : Nat → Bool} {m : MM} {p x : Nat} (h : (prt n wn m).1 p = some x) : m p = some x := by
  have := fld_inv (α := MM × Nat) (n := n) (f := prtF wn) (p := fun _ acc => acc.1 p = some x → m p = some x) (i := 0) (acc := (m, 0)) id (fun j acc _ hj hacc => by
    obtain ⟨m1, y⟩ := acc
    have hacc' : m1 p = some x → m p = some x := hacc
    cases hw : wn j with
    | false => rw [prtF_no hw]; exact hacc
    | true =>
      cases hr : m1 j with
      | none => rw [prtF_0 hr]; exact hacc
      | some r =>
        rw [prtF_1 hw hr]
        intro q
        have q' : (if p = r then none else if p = j then none else m1 p) = some x := q
        by_cases e1 : p = r
        · rw [if_pos e1] at q'; cases q'
        · rw [if_neg e1] at q'
          by_cases e2 : p = j
          · rw [if_pos e2] at q'; cases q'
          · rw [if_neg e2] at q'; exact hacc' q') (by omega)
  exact this h
theorem many_keep {w : WT} {c h : Nat → Nat} {m : MM} {a q : Nat} (hh : ∀ p, p < w.n → h p < 10) (hg : gm w.n m) (ha : a < w.n) (hm : m a = some q) : ∀ f, h a + f < 9 ∨ f = 0 → h q + f < 9 ∨ f = 0 → (many w c (h, m) f).2 a = some q
  | 0, _, _ => hm
  | f + 1, h1, h2 => by
    have ih := many_keep (c := c) hh hg ha hm f (by omega) (by omega)
    rw [many_s hh]
    exact prt_keep (gm_bal _ (many_gm hg f)) ha (bal_keep _ ih) (decide_eq_false (by omega)) (decide_eq_false (by omega))
theorem lasts_eq {w : WT} {c h : Nat → Nat} {m : MM} {a q : Nat} (hh : ∀ p, p < w.n → h p < 10) (hg : gm w.n m) (ha : a < w.n) (hm : m a = some q) : fnd 31 1 (fun j => !bm (many w c (h, m) j).2 a) = some (mxN 1 (9 - mxN (h a) (h q))) := by
  have hq := hg a ha q hm
  have h1 := hh a ha
  have h2 := hh q hq.1
  have e1 := mxN_or (h a) (h q)
  have e2 := mxN_or 1 (9 - mxN (h a) (h q))
  generalize mxN (h a) (h q) = H at *
  generalize mxN 1 (9 - H) = K at *
  refine fnd_is (by omega) (by omega) ?_ (fun j j1 j2 => ?_)
  · obtain ⟨f, rfl⟩ : ∃ f, K = f + 1 := ⟨K - 1, by omega⟩
    have ih := many_keep (c := c) hh hg ha hm f (by omega) (by omega)
    have none' : (many w c (h, m) (f + 1)).2 a = none := by
      cases e : (many w c (h, m) (f + 1)).2 a with
      | none => rfl
      | some x =>
        exfalso
        have g2 := many_gm (w := w) (c := c) (h := h) hg (f + 1)
        rw [many_s hh] at e g2
        have e3 := prt_sub e
        rw [bal_keep _ ih] at e3
        cases e3
        have e4 := (g2 a ha q e).2.2
        rcases (show 9 ≤ h a + (f + 1) ∨ 9 ≤ h q + (f + 1) by omega) with z | z
        · rw [prt_worn a ha (decide_eq_true z)] at e
          cases e
        · rw [prt_worn q hq.1 (decide_eq_true z)] at e4
          cases e4
    show (!bm (many w c (h, m) (f + 1)).2 a) = true
    unfold bm
    simp [none']
  · show (!bm (many w c (h, m) j).2 a) = false
    have := many_keep (c := c) hh hg ha hm j (by omega) (by omega)
    unfold bm
    simp [this]
theorem shr1 {k : Nat} (h : k < 2 ^ 31) : nI k >>> (nI 1 &&& 31) = nI (k / 2) := sh_r (k := 1) h (by decide)
theorem and1 {k : Nat} (h : k < 2 ^ 31) : nI k &&& nI 1 = nI (k % 2) := pk_andN (by omega) 1 (by decide)
section C
variable {I : mj_I} {L : mj_L} {P : mj_P} {Q : mj_Q} {d n r t a b : Nat} {A : AS} {w : WT} {c h : Nat → Nat} {m : MM} {al : Nat → Nat → Int32}
theorem c_120 (hP : PS t P) (hS : CS A I) (ha : a < A.w.n) (k : kC Q I L P A (.inl (some (.int (mI (if A.m a = none then none else fnd 31 1 (fun j => !bm (many A.w A.c (A.h, A.m) j).2 a))))))) : mj_ev (d + 12) 120 [.ref 0, .int (nI a)] (107, I, L, P) Q := by
  refine ⟨rfl, ?_⟩
  have hn := hS.cb.hn
  have hn10 := hS.cb.n10
  have r3 := hS.cb.cw.mat ha
  show mj_run (mj_ev (d + 11)) k120 Q (k120 0) [some (.ref 0), some (.int (nI a)), none, none] [] (107, I, L, P) 1 6
  cases hm : A.m a with
  | none =>
    rw [hm] at r3
    refine q_5 rfl ?_
    refine q_3 rfl ?_
    refine q_47 (mj_ev_mono _) [_] rfl rfl rfl (by decide) rfl rfl rfl ?_
    refine c_149T hP hn hn10 ha ?_
    refine q_5 rfl ?_
    refine q_33 rfl (by decide) (hP _ _ _ rfl) ?_
    refine q_33 rfl (by decide) (hP _ _ _ rfl) ?_
    refine q_3 rfl ?_
    first | refine q_38E _ rfl (by decide) rfl (by show _ < 10; omega) (by decide) (r3) ?_ | refine q_38 _ rfl (by decide) rfl (by show _ < 10; omega) (by decide) ?_
    refine q_6 rfl rfl rfl ?_
    refine q_3 rfl ?_
    refine q_1 ?_
    refine q_neI (fun z => absurd rfl z) (fun _ => ?_)
    refine q_1 ?_
    refine q_26 ?_
    exact k.same hS (by rw [if_pos hm]; rfl)
  | some q =>
    rw [hm] at r3
    have r3' : I 34 a = nI q := r3
    have hq := (hS.cb.cw.gm a ha q hm).1
    have r1 := hS.cb.cw.hol ha
    have r2 := hS.cb.cw.hol hq
    have z1 := hS.cb.cw.h10 ha
    have z2 := hS.cb.cw.h10 hq
    have e1 := mxN_or (A.h a) (A.h q)
    have e2 := lasts_eq (w := A.w) (c := A.c) (h := A.h) (m := A.m) (fun p hp => hS.cb.cw.h10 hp) hS.cb.cw.gm ha hm
    refine q_5 rfl ?_
    refine q_3 rfl ?_
    refine q_47 (mj_ev_mono _) [_] rfl rfl rfl (by decide) rfl rfl rfl ?_
    refine c_149T hP hn hn10 ha ?_
    refine q_5 rfl ?_
    refine q_33 rfl (by decide) (hP _ _ _ rfl) ?_
    refine q_33 rfl (by decide) (hP _ _ _ rfl) ?_
    refine q_3 rfl ?_
    first | refine q_38E _ rfl (by decide) rfl (by show _ < 10; omega) (by decide) (r3') ?_ | refine q_38 _ rfl (by decide) rfl (by show _ < 10; omega) (by decide) ?_
    refine q_6 rfl rfl rfl ?_
    refine q_3 rfl ?_
    refine q_1 ?_
    refine q_neI (fun _ => ?_) (fun z => absurd (mI_ne (by omega)) z)
    refine q_5 rfl ?_
    refine q_33 rfl (by decide) (hP _ _ _ rfl) ?_
    refine q_33 rfl (by decide) (hP _ _ _ rfl) ?_
    refine q_3 rfl ?_
    first | refine q_38E _ rfl (by decide) rfl (by show _ < 10; omega) (by decide) (r1) ?_ | refine q_38E _ rfl (by decide) rfl (by show _ < 10; omega) (by decide) (r2) ?_ | refine q_38 _ rfl (by decide) rfl (by show _ < 10; omega) (by decide) ?_
    refine q_5 rfl ?_
    refine q_33 rfl (by decide) (hP _ _ _ rfl) ?_
    refine q_33 rfl (by decide) (hP _ _ _ rfl) ?_
    refine q_3 rfl ?_
    first | refine q_38E _ rfl (by decide) rfl (by show _ < 10; omega) (by decide) (r1) ?_ | refine q_38E _ rfl (by decide) rfl (by show _ < 10; omega) (by decide) (r2) ?_ | refine q_38 _ rfl (by decide) rfl (by show _ < 10; omega) (by decide) ?_
    refine q_70 rfl ?_
    rw [max_nI (by omega) (by omega)]
    refine q_6 rfl rfl rfl ?_
    refine q_0 ?_
    refine q_0 ?_
    refine q_3 rfl ?_
    first | refine q_sub (by omega) ?_ | refine q_11 rfl ?_
    refine q_70 rfl ?_
    rw [max_nI (by omega) (by omega)]
    refine q_26 ?_
    exact k.same hS (by rw [if_neg (by rw [hm]; exact fun z => by cases z), e2]; rfl)
theorem c_138 (ha : a < 10) (hb : b < 10) (k : Q (.inl (some (.int (nI (lky a b))))) (107, I, L, P)) : mj_ev (d + 1) 138 [.int (nI a), .int (nI b)] (107, I, L, P) Q := by
  refine ⟨rfl, ?_⟩
  show mj_run (mj_ev d) k138 Q (k138 0) [some (.int (nI a)), some (.int (nI b)), none, none] [] (107, I, L, P) 0 0
  by_cases h0 : b = 0
  · subst h0
    refine q_3 rfl ?_
    first | refine q_neN0 (by omega) (fun hh => absurd hh (by omega)) (fun hh => ?_) | refine q_neI0 (fun hh => absurd hh (by omega)) (fun hh => ?_)
    refine q_0 ?_
    refine q_26 ?_
    exact k
  · have fin : ∀ v, fld a b (fun v i => v + 840 / i) 0 = v → Q (.inl (some (.int (nI (b * v))))) (107, I, L, P) := by
      intro v e
      refine kQ k ?_
      unfold lky
      rw [if_neg h0, e]
    have L12 : ∀ i, i ≤ a → b ≤ i → ∀ v, fld a i (fun v i => v + 840 / i) v = fld a b (fun v i => v + 840 / i) 0 → mj_run (mj_ev d) k138 Q (k138 12) [some (.int (nI a)), some (.int (nI b)), some (.int (nI (b * v))), some (.int (nI i))] [] (107, I, L, P) 0 0 := by
      refine loop_up ?_ (fun i hi ih => ?_)
      · intro _ v hf
        rw [fld_end (Nat.le_refl _)] at hf
        refine q_3 rfl ?_
        refine q_3 rfl ?_
        refine q_geN (by omega) (by omega) (fun hh => ?_) (fun hh => absurd hh (by omega))
        refine q_3 rfl ?_
        refine q_26 ?_
        exact fin v hf.symm
      · intro hbi v hf
        rw [fld_step hi] at hf
        refine q_3 rfl ?_
        refine q_3 rfl ?_
        refine q_geN (by omega) (by omega) (fun hh => absurd hh (by omega)) (fun hh => ?_)
        refine q_3 rfl ?_
        refine q_3 rfl ?_
        refine q_0 ?_
        refine q_0 ?_
        refine q_3 rfl ?_
        refine q_70 rfl ?_
        rw [max_nI (by omega) (by omega), show mxN 1 i = i by unfold mxN; split <;> omega]
        first | refine q_divN (by omega) (by omega) (by omega) ?_ | refine q_div (by assumption) ?_
        first | refine q_mul ?_ | refine q_11 rfl ?_
        first | refine q_add ?_ | refine q_11 rfl ?_
        refine q_6 rfl rfl rfl ?_
        first | refine q_inc rfl rfl rfl ?_ | refine q_9 rfl rfl rfl ?_
        refine q_23 ?_
        rw [show b * v + b * (840 / i) = b * (v + 840 / i) from (Nat.mul_add ..).symm]
        exact ih (by omega) _ hf
    rcases Nat.lt_or_ge a b with hab | hab
    · refine q_3 rfl ?_
      first | refine q_neN0 (by omega) (fun hh => ?_) (fun hh => absurd hh (by omega)) | refine q_neI0 (fun hh => ?_) (fun hh => absurd (by omega) hh)
      refine q_0 ?_
      refine q_6 rfl rfl rfl ?_
      refine q_3 rfl ?_
      refine q_6 rfl rfl rfl ?_
      refine q_3 rfl ?_
      refine q_3 rfl ?_
      refine q_geN (by omega) (by omega) (fun hh => ?_) (fun hh => absurd hh (by omega))
      refine q_3 rfl ?_
      refine q_26 ?_
      exact fin 0 (fld_end (by omega))
    · refine q_3 rfl ?_
      first | refine q_neN0 (by omega) (fun hh => ?_) (fun hh => absurd hh (by omega)) | refine q_neI0 (fun hh => ?_) (fun hh => absurd (by omega) hh)
      refine q_0 ?_
      refine q_6 rfl rfl rfl ?_
      refine q_3 rfl ?_
      refine q_6 rfl rfl rfl ?_
      exact L12 b hab (Nat.le_refl _) 0 rfl
theorem c_139 (ha : a < 2 ^ 17) (hb : b < 2 ^ 17) (k : Q (.inl (some (.int (nI (Nat.gcd a b))))) (107, I, L, P)) : mj_ev (d + 1) 139 [.int (nI a), .int (nI b)] (107, I, L, P) Q := by
  refine ⟨rfl, ?_⟩
  have L7 : ∀ K T y x x5, T + K ≤ 63 → x < 2 ^ 17 → y ≤ x → x * y < 2 ^ K → Nat.gcd x y = Nat.gcd a b → mj_run (mj_ev d) k139 Q (k139 7) [some (.int (nI a)), some (.int (nI b)), some (.int (nI x)), some (.int (nI y)), some (.int (nI T)), x5] [] (107, I, L, P) 0 0 := by
    intro K
    induction K with
    | zero =>
      intro T y x x5 h0 h1 h2 h3 h4
      have hy : y = 0 := by
        rcases Nat.eq_zero_or_pos y with q | q
        · exact q
        · have := Nat.mul_pos (show 0 < x by omega) q
          omega
      subst hy
      refine q_3 rfl ?_
      refine q_0 ?_
      refine q_geN (by omega) (by omega) (fun hh => absurd hh (by omega)) (fun hh => ?_)
      refine q_3 rfl ?_
      first | refine q_eqN0 (by omega) (fun hh => ?_) (fun hh => absurd hh (by omega)) | refine q_eqI0 (fun hh => ?_) (fun hh => absurd (by omega) hh)
      refine q_3 rfl ?_
      refine q_26 ?_
      exact kQ k (by rw [← h4, Nat.gcd_zero_right])
    | succ K ih =>
      intro T y x x5 h0 h1 h2 h3 h4
      by_cases hy : y = 0
      · subst hy
        refine q_3 rfl ?_
        refine q_0 ?_
        refine q_geN (by omega) (by omega) (fun hh => absurd hh (by omega)) (fun hh => ?_)
        refine q_3 rfl ?_
        first | refine q_eqN0 (by omega) (fun hh => ?_) (fun hh => absurd hh (by omega)) | refine q_eqI0 (fun hh => ?_) (fun hh => absurd (by omega) hh)
        refine q_3 rfl ?_
        refine q_26 ?_
        exact kQ k (by rw [← h4, Nat.gcd_zero_right])
      · have hm := Nat.mod_lt x (show 0 < y by omega)
        have hx : y + x % y ≤ x := by
          have e := Nat.div_add_mod x y
          have e2 : 1 ≤ x / y := (Nat.le_div_iff_mul_le (by omega)).mpr (by omega)
          have e3 := Nat.mul_le_mul_left y e2
          omega
        have hp : y * (x % y) < 2 ^ K := by
          have e3 := Nat.mul_le_mul_left y hx
          rw [Nat.mul_add] at e3
          have e4 : y * (x % y) ≤ y * y := Nat.mul_le_mul_left y (by omega)
          rw [Nat.mul_comm x y, Nat.pow_succ] at h3
          omega
        refine q_3 rfl ?_
        refine q_0 ?_
        refine q_geN (by omega) (by omega) (fun hh => absurd hh (by omega)) (fun hh => ?_)
        refine q_3 rfl ?_
        first | refine q_eqN0 (by omega) (fun hh => absurd hh (by omega)) (fun hh => ?_) | refine q_eqI0 (fun hh => absurd hh (by omega)) (fun hh => ?_)
        refine q_3 rfl ?_
        refine q_3 rfl ?_
        first | refine q_remN (by omega) (by omega) (by omega) ?_ | refine q_rem (by assumption) ?_
        refine q_6 rfl rfl rfl ?_
        refine q_3 rfl ?_
        refine q_6 rfl rfl rfl ?_
        refine q_3 rfl ?_
        refine q_6 rfl rfl rfl ?_
        first | refine q_inc rfl rfl rfl ?_ | refine q_9 rfl rfl rfl ?_
        refine q_23 ?_
        exact ih (T + 1) (x % y) y _ (by omega) (by omega) (by omega) hp (by rw [← h4, Nat.gcd_comm x y, Nat.gcd_rec y x, Nat.gcd_comm])
  show mj_run (mj_ev d) k139 Q (k139 0) [some (.int (nI a)), some (.int (nI b)), none, none, none, none] [] (107, I, L, P) 0 0
  have hab : a * b < 2 ^ 34 := by
    have := Nat.mul_lt_mul'' ha hb
    exact this
  rcases Nat.lt_or_ge a b with hlt | hge
  · refine q_3 rfl ?_
    refine q_6 rfl rfl rfl ?_
    refine q_3 rfl ?_
    refine q_6 rfl rfl rfl ?_
    refine q_0 ?_
    refine q_6 rfl rfl rfl ?_
    refine q_3 rfl ?_
    refine q_0 ?_
    refine q_geN (by omega) (by omega) (fun hh => absurd hh (by omega)) (fun hh => ?_)
    refine q_3 rfl ?_
    refine q_eqN0 (by omega) (fun hh => absurd hh (by omega)) (fun hh => ?_)
    refine q_3 rfl ?_
    refine q_3 rfl ?_
    refine q_remN (by omega) (by omega) (by omega) ?_
    refine q_6 rfl rfl rfl ?_
    refine q_3 rfl ?_
    refine q_6 rfl rfl rfl ?_
    refine q_3 rfl ?_
    refine q_6 rfl rfl rfl ?_
    refine q_inc rfl rfl rfl ?_
    refine q_23 ?_
    rw [Nat.mod_eq_of_lt hlt]
    exact L7 34 1 a b _ (by omega) hb (by omega) (by rw [Nat.mul_comm]; exact hab) (Nat.gcd_comm _ _)
  · refine q_3 rfl ?_
    refine q_6 rfl rfl rfl ?_
    refine q_3 rfl ?_
    refine q_6 rfl rfl rfl ?_
    refine q_0 ?_
    refine q_6 rfl rfl rfl ?_
    exact L7 34 0 b a _ (by omega) ha hge hab rfl
theorem c_137 {s x : Nat} (hS : CS A I) (hs1 : 1 ≤ s) (hs : s ≤ 9) (hx : x ≤ 2) (k : kC Q I L P A (.inl (some (.int (nI (sBasket s x)))))) : mj_ev (d + 12) 137 [.ref 0, .int (nI s), .int (nI x)] (107, I, L, P) Q := by
  refine ⟨rfl, ?_⟩
  have L32 : ∀ i, i ≤ s → 1 ≤ i → ∀ best, best < i → fld s i (fun best b => if lky s best < lky s b then b else best) best = bask s → mj_run (mj_ev (d + 11)) k137 Q (k137 32) [some (.ref 0), some (.int (nI s)), some (.int (nI x)), some (.int (nI best)), some (.int (nI i)), none, none] [] (107, I, L, P) 1 6 := by
    refine loop_up ?_ (fun i hi ih => ?_)
    · intro _ best hb hf
      rw [fld_end (Nat.le_refl _)] at hf
      subst hf
      have l1 := lky_lt s (by omega) (bask s) (by omega)
      have gp : 0 < Nat.gcd (lky s (bask s)) (840 * s) := Nat.gcd_pos_of_pos_right _ (by omega)
      have gl : Nat.gcd (lky s (bask s)) (840 * s) ≤ 840 * s := Nat.le_of_dvd (by omega) (Nat.gcd_dvd_right _ _)
      have gm : mxN 1 (Nat.gcd (lky s (bask s)) (840 * s)) = Nat.gcd (lky s (bask s)) (840 * s) := by unfold mxN; split <;> omega
      obtain rfl | rfl | rfl : x = 0 ∨ x = 1 ∨ x = 2 := by omega
      · refine q_3 rfl ?_
        refine q_3 rfl ?_
        refine q_geN (by omega) (by omega) (fun hh => ?_) (fun hh => absurd hh (by omega))
        refine q_3 rfl ?_
        first | refine q_neN0 (by omega) (fun hh => absurd hh (by omega)) (fun hh => ?_) | refine q_neI0 (fun hh => absurd hh (by omega)) (fun hh => ?_)
        refine q_3 rfl ?_
        refine q_26 ?_
        exact k.same hS rfl
      · refine q_3 rfl ?_
        refine q_3 rfl ?_
        refine q_geN (by omega) (by omega) (fun hh => ?_) (fun hh => absurd hh (by omega))
        refine q_3 rfl ?_
        first | refine q_neN0 (by omega) (fun hh => ?_) (fun hh => absurd hh (by omega)) | refine q_neI0 (fun hh => ?_) (fun hh => absurd (by omega) hh)
        refine q_3 rfl ?_
        refine q_3 rfl ?_
        refine q_48 (mj_ev_mono _) [_, _] rfl rfl rfl rfl rfl ?_
        refine c_138 (by omega) (by omega) ?_
        refine q_6 rfl rfl rfl ?_
        refine q_3 rfl ?_
        refine q_0 ?_
        refine q_mul ?_
        rw [Nat.mul_comm s 840]
        refine q_6 rfl rfl rfl ?_
        refine q_3 rfl ?_
        refine q_3 rfl ?_
        refine q_48 (mj_ev_mono _) [_, _] rfl rfl rfl rfl rfl ?_
        refine c_139 (by omega) (by omega) ?_
        refine q_6 rfl rfl rfl ?_
        refine q_3 rfl ?_
        refine q_0 ?_
        refine q_neN (by omega) (by omega) (fun hh => absurd hh (by omega)) (fun hh => ?_)
        refine q_3 rfl ?_
        refine q_23 ?_
        refine q_0 ?_
        refine q_3 rfl ?_
        refine q_70 rfl ?_
        rw [max_nI (by omega) (by omega), gm]
        first | refine q_divN (by omega) (by omega) (by omega) ?_ | refine q_div (by assumption) ?_
        refine q_26 ?_
        exact k.same hS rfl
      · refine q_3 rfl ?_
        refine q_3 rfl ?_
        refine q_geN (by omega) (by omega) (fun hh => ?_) (fun hh => absurd hh (by omega))
        refine q_3 rfl ?_
        first | refine q_neN0 (by omega) (fun hh => ?_) (fun hh => absurd hh (by omega)) | refine q_neI0 (fun hh => ?_) (fun hh => absurd (by omega) hh)
        refine q_3 rfl ?_
        refine q_3 rfl ?_
        refine q_48 (mj_ev_mono _) [_, _] rfl rfl rfl rfl rfl ?_
        refine c_138 (by omega) (by omega) ?_
        refine q_6 rfl rfl rfl ?_
        refine q_3 rfl ?_
        refine q_0 ?_
        refine q_mul ?_
        rw [Nat.mul_comm s 840]
        refine q_6 rfl rfl rfl ?_
        refine q_3 rfl ?_
        refine q_3 rfl ?_
        refine q_48 (mj_ev_mono _) [_, _] rfl rfl rfl rfl rfl ?_
        refine c_139 (by omega) (by omega) ?_
        refine q_6 rfl rfl rfl ?_
        refine q_3 rfl ?_
        refine q_0 ?_
        refine q_neN (by omega) (by omega) (fun hh => ?_) (fun hh => absurd hh (by omega))
        refine q_3 rfl ?_
        refine q_0 ?_
        refine q_3 rfl ?_
        refine q_70 rfl ?_
        rw [max_nI (by omega) (by omega), gm]
        first | refine q_divN (by omega) (by omega) (by omega) ?_ | refine q_div (by assumption) ?_
        refine q_26 ?_
        exact k.same hS rfl
    · intro hi1 best hb hf
      rw [fld_step hi] at hf
      have l1 := lky_lt s (by omega) best (by omega)
      have l2 := lky_lt s (by omega) i (by omega)
      refine q_3 rfl ?_
      refine q_3 rfl ?_
      refine q_geN (by omega) (by omega) (fun hh => absurd hh (by omega)) (fun hh => ?_)
      refine q_3 rfl ?_
      refine q_3 rfl ?_
      refine q_48 (mj_ev_mono _) [_, _] rfl rfl rfl rfl rfl ?_
      refine c_138 (by omega) (by omega) ?_
      refine q_3 rfl ?_
      refine q_3 rfl ?_
      refine q_48 (mj_ev_mono _) [_, _] rfl rfl rfl rfl rfl ?_
      refine c_138 (by omega) (by omega) ?_
      first | refine q_leN (by omega) (by omega) (fun hh => ?_) (fun hh => ?_) | refine q_leI (fun hh => ?_) (fun hh => ?_)
      · first | refine q_inc rfl rfl rfl ?_ | refine q_9 rfl rfl rfl ?_
        refine q_23 ?_
        first | (rw [if_neg (by omega)] at hf; exact ih (by omega) _ (by omega) hf) | (rw [if_pos (by omega)] at hf; exact ih (by omega) _ (by omega) hf)
      · refine q_3 rfl ?_
        refine q_6 rfl rfl rfl ?_
        first | refine q_inc rfl rfl rfl ?_ | refine q_9 rfl rfl rfl ?_
        refine q_23 ?_
        first | (rw [if_neg (by omega)] at hf; exact ih (by omega) _ (by omega) hf) | (rw [if_pos (by omega)] at hf; exact ih (by omega) _ (by omega) hf)
  show mj_run (mj_ev (d + 11)) k137 Q (k137 0) [some (.ref 0), some (.int (nI s)), some (.int (nI x)), none, none, none, none] [] (107, I, L, P) 2 12
  refine q_3 rfl ?_
  refine q_0 ?_
  refine q_48 (mj_ev_mono _) [_, _] rfl rfl rfl rfl rfl ?_
  refine c_150T hx (by omega) ?_
  refine q_3 rfl ?_
  refine q_0 ?_
  refine q_ltN (by omega) (by omega) (fun hh => absurd hh (by omega)) (fun hh => ?_)
  refine q_3 rfl ?_
  refine q_0 ?_
  refine q_leN (by omega) (by omega) (fun hh => ?_) (fun hh => absurd hh (by omega))
  refine q_0 ?_
  refine q_6 rfl rfl rfl ?_
  refine q_0 ?_
  refine q_6 rfl rfl rfl ?_
  exact L32 1 hs1 (by omega) 0 (by omega) rfl
theorem c_142 {x y : Nat} (hP : PS t P) (hW : CT w I) (hR : CW w.n 32 33 34 c h m I) (ha : a < w.n) (hb : b < w.n) (hx : x ≤ 1) (hy : y ≤ 1) (k : ∀ I', Eqf (frm [13, 15] []) I I' → Q (.inl (some (.int (gns w c h a b x y)))) (107, I', L, P)) : mj_ev (d + 4) 142 [.ref 0, .int (nI a), .int (nI x), .int (nI b), .int (nI y)] (107, I, L, P) Q := by
  refine ⟨rfl, ?_⟩
  have hn10 := hW.n10
  have g1 := hR.hol ha
  have g2 := hR.hol hb
  have z1 := hR.h10 ha
  have z2 := hR.h10 hb
  show mj_run (mj_ev (d + 3)) k142 Q (k142 0) [some (.ref 0), some (.int (nI a)), some (.int (nI x)), some (.int (nI b)), some (.int (nI y)), none, none, none, none] [] (107, I, L, P) 0 0
  obtain ⟨rfl | rfl, rfl | rfl⟩ : (x = 0 ∨ x = 1) ∧ (y = 0 ∨ y = 1) := by omega
  · refine q_3 rfl ?_
    refine q_0 ?_
    refine q_neN (by omega) (by omega) (fun hh => ?_) (fun hh => absurd hh (by omega))
    refine q_5 rfl ?_
    refine q_33 rfl (by decide) (hP _ _ _ rfl) ?_
    refine q_33 rfl (by decide) (hP _ _ _ rfl) ?_
    refine q_3 rfl ?_
    first | refine q_38E _ rfl (by decide) rfl (by show _ < 10; omega) (by decide) (g1) ?_ | refine q_38E _ rfl (by decide) rfl (by show _ < 10; omega) (by decide) (g2) ?_ | refine q_38E _ rfl (by decide) rfl (by show _ < 10; omega) (by decide) (g3) ?_ | refine q_38 _ rfl (by decide) rfl (by show _ < 10; omega) (by decide) ?_
    refine q_6 rfl rfl rfl ?_
    refine q_3 rfl ?_
    refine q_0 ?_
    refine q_neN (by omega) (by omega) (fun hh => ?_) (fun hh => absurd hh (by omega))
    refine q_5 rfl ?_
    refine q_33 rfl (by decide) (hP _ _ _ rfl) ?_
    refine q_33 rfl (by decide) (hP _ _ _ rfl) ?_
    refine q_3 rfl ?_
    first | refine q_38E _ rfl (by decide) rfl (by show _ < 10; omega) (by decide) (g1) ?_ | refine q_38E _ rfl (by decide) rfl (by show _ < 10; omega) (by decide) (g2) ?_ | refine q_38E _ rfl (by decide) rfl (by show _ < 10; omega) (by decide) (g3) ?_ | refine q_38 _ rfl (by decide) rfl (by show _ < 10; omega) (by decide) ?_
    refine q_6 rfl rfl rfl ?_
    refine q_0 ?_
    refine q_5 rfl ?_
    refine q_3 rfl ?_
    refine q_3 rfl ?_
    refine q_3 rfl ?_
    refine q_3 rfl ?_
    refine q_47 (mj_ev_mono _) [_, _, _, _] rfl rfl rfl (by decide) rfl rfl rfl ?_
    refine c_156 hP hW hR ha hb (by omega) (by omega) (fun I1 q1 => ?_)
    have g3 : I1 33 b = nI (h b) := (q1 33 _ rfl).trans g2
    refine q_70 rfl ?_
    refine q_6 rfl rfl rfl ?_
    refine q_3 rfl ?_
    refine q_0 ?_
    refine q_neN (by omega) (by omega) (fun hh => ?_) (fun hh => absurd hh (by omega))
    refine q_0 ?_
    refine q_6 rfl rfl rfl ?_
    refine q_3 rfl ?_
    refine q_3 rfl ?_
    refine q_0 ?_
    first | refine q_divN (by omega) (by omega) (by omega) ?_ | refine q_div (by assumption) ?_
    refine q_11 rfl ?_
    refine q_3 rfl ?_
    refine q_11 rfl ?_
    refine q_26 ?_
    exact k I1 q1
  · refine q_3 rfl ?_
    refine q_0 ?_
    refine q_neN (by omega) (by omega) (fun hh => ?_) (fun hh => absurd hh (by omega))
    refine q_5 rfl ?_
    refine q_33 rfl (by decide) (hP _ _ _ rfl) ?_
    refine q_33 rfl (by decide) (hP _ _ _ rfl) ?_
    refine q_3 rfl ?_
    first | refine q_38E _ rfl (by decide) rfl (by show _ < 10; omega) (by decide) (g1) ?_ | refine q_38E _ rfl (by decide) rfl (by show _ < 10; omega) (by decide) (g2) ?_ | refine q_38E _ rfl (by decide) rfl (by show _ < 10; omega) (by decide) (g3) ?_ | refine q_38 _ rfl (by decide) rfl (by show _ < 10; omega) (by decide) ?_
    refine q_6 rfl rfl rfl ?_
    refine q_3 rfl ?_
    refine q_0 ?_
    refine q_neN (by omega) (by omega) (fun hh => absurd hh (by omega)) (fun hh => ?_)
    refine q_0 ?_
    refine q_23 ?_
    refine q_6 rfl rfl rfl ?_
    refine q_0 ?_
    refine q_5 rfl ?_
    refine q_3 rfl ?_
    refine q_3 rfl ?_
    refine q_3 rfl ?_
    refine q_3 rfl ?_
    refine q_47 (mj_ev_mono _) [_, _, _, _] rfl rfl rfl (by decide) rfl rfl rfl ?_
    refine c_156 hP hW hR ha hb (by omega) (by omega) (fun I1 q1 => ?_)
    have g3 : I1 33 b = nI (h b) := (q1 33 _ rfl).trans g2
    refine q_70 rfl ?_
    refine q_6 rfl rfl rfl ?_
    refine q_3 rfl ?_
    refine q_0 ?_
    refine q_neN (by omega) (by omega) (fun hh => absurd hh (by omega)) (fun hh => ?_)
    refine q_5 rfl ?_
    refine q_33 rfl (by decide) (hP _ _ _ rfl) ?_
    refine q_33 rfl (by decide) (hP _ _ _ rfl) ?_
    refine q_3 rfl ?_
    first | refine q_38E _ rfl (by decide) rfl (by show _ < 10; omega) (by decide) (g1) ?_ | refine q_38E _ rfl (by decide) rfl (by show _ < 10; omega) (by decide) (g2) ?_ | refine q_38E _ rfl (by decide) rfl (by show _ < 10; omega) (by decide) (g3) ?_ | refine q_38 _ rfl (by decide) rfl (by show _ < 10; omega) (by decide) ?_
    refine q_23 ?_
    refine q_6 rfl rfl rfl ?_
    refine q_3 rfl ?_
    refine q_3 rfl ?_
    refine q_0 ?_
    first | refine q_divN (by omega) (by omega) (by omega) ?_ | refine q_div (by assumption) ?_
    refine q_11 rfl ?_
    refine q_3 rfl ?_
    refine q_11 rfl ?_
    refine q_26 ?_
    exact k I1 q1
  · refine q_3 rfl ?_
    refine q_0 ?_
    refine q_neN (by omega) (by omega) (fun hh => absurd hh (by omega)) (fun hh => ?_)
    refine q_0 ?_
    refine q_23 ?_
    refine q_6 rfl rfl rfl ?_
    refine q_3 rfl ?_
    refine q_0 ?_
    refine q_neN (by omega) (by omega) (fun hh => ?_) (fun hh => absurd hh (by omega))
    refine q_5 rfl ?_
    refine q_33 rfl (by decide) (hP _ _ _ rfl) ?_
    refine q_33 rfl (by decide) (hP _ _ _ rfl) ?_
    refine q_3 rfl ?_
    first | refine q_38E _ rfl (by decide) rfl (by show _ < 10; omega) (by decide) (g1) ?_ | refine q_38E _ rfl (by decide) rfl (by show _ < 10; omega) (by decide) (g2) ?_ | refine q_38E _ rfl (by decide) rfl (by show _ < 10; omega) (by decide) (g3) ?_ | refine q_38 _ rfl (by decide) rfl (by show _ < 10; omega) (by decide) ?_
    refine q_6 rfl rfl rfl ?_
    refine q_0 ?_
    refine q_5 rfl ?_
    refine q_3 rfl ?_
    refine q_3 rfl ?_
    refine q_3 rfl ?_
    refine q_3 rfl ?_
    refine q_47 (mj_ev_mono _) [_, _, _, _] rfl rfl rfl (by decide) rfl rfl rfl ?_
    refine c_156 hP hW hR ha hb (by omega) (by omega) (fun I1 q1 => ?_)
    have g3 : I1 33 b = nI (h b) := (q1 33 _ rfl).trans g2
    refine q_70 rfl ?_
    refine q_6 rfl rfl rfl ?_
    refine q_3 rfl ?_
    refine q_0 ?_
    refine q_neN (by omega) (by omega) (fun hh => ?_) (fun hh => absurd hh (by omega))
    refine q_0 ?_
    refine q_6 rfl rfl rfl ?_
    refine q_3 rfl ?_
    refine q_3 rfl ?_
    refine q_0 ?_
    first | refine q_divN (by omega) (by omega) (by omega) ?_ | refine q_div (by assumption) ?_
    refine q_11 rfl ?_
    refine q_3 rfl ?_
    refine q_11 rfl ?_
    refine q_26 ?_
    exact k I1 q1
  · refine q_3 rfl ?_
    refine q_0 ?_
    refine q_neN (by omega) (by omega) (fun hh => absurd hh (by omega)) (fun hh => ?_)
    refine q_0 ?_
    refine q_23 ?_
    refine q_6 rfl rfl rfl ?_
    refine q_3 rfl ?_
    refine q_0 ?_
    refine q_neN (by omega) (by omega) (fun hh => absurd hh (by omega)) (fun hh => ?_)
    refine q_0 ?_
    refine q_23 ?_
    refine q_6 rfl rfl rfl ?_
    refine q_0 ?_
    refine q_5 rfl ?_
    refine q_3 rfl ?_
    refine q_3 rfl ?_
    refine q_3 rfl ?_
    refine q_3 rfl ?_
    refine q_47 (mj_ev_mono _) [_, _, _, _] rfl rfl rfl (by decide) rfl rfl rfl ?_
    refine c_156 hP hW hR ha hb (by omega) (by omega) (fun I1 q1 => ?_)
    have g3 : I1 33 b = nI (h b) := (q1 33 _ rfl).trans g2
    refine q_70 rfl ?_
    refine q_6 rfl rfl rfl ?_
    refine q_3 rfl ?_
    refine q_0 ?_
    refine q_neN (by omega) (by omega) (fun hh => absurd hh (by omega)) (fun hh => ?_)
    refine q_5 rfl ?_
    refine q_33 rfl (by decide) (hP _ _ _ rfl) ?_
    refine q_33 rfl (by decide) (hP _ _ _ rfl) ?_
    refine q_3 rfl ?_
    first | refine q_38E _ rfl (by decide) rfl (by show _ < 10; omega) (by decide) (g1) ?_ | refine q_38E _ rfl (by decide) rfl (by show _ < 10; omega) (by decide) (g2) ?_ | refine q_38E _ rfl (by decide) rfl (by show _ < 10; omega) (by decide) (g3) ?_ | refine q_38 _ rfl (by decide) rfl (by show _ < 10; omega) (by decide) ?_
    refine q_23 ?_
    refine q_6 rfl rfl rfl ?_
    refine q_3 rfl ?_
    refine q_3 rfl ?_
    refine q_0 ?_
    first | refine q_divN (by omega) (by omega) (by omega) ?_ | refine q_div (by assumption) ?_
    refine q_11 rfl ?_
    refine q_3 rfl ?_
    refine q_11 rfl ?_
    refine q_26 ?_
    exact k I1 q1
theorem c_141 {i : Nat} (hP : PS t P) (hW : CT w I) (hR : CW w.n 32 33 34 c h m I) (ha : a < w.n) (hb : b < w.n) (hi : i ≤ 3) (k : ∀ I', Eqf (frm [13, 15] []) I I' → Q (.inl (some (.int (nI (if gmp w c h a b i then 1 else 0))))) (107, I', L, P)) : mj_ev (d + 5) 141 [.ref 0, .int (nI a), .int (nI (i / 2)), .int (nI b), .int (nI (i % 2))] (107, I, L, P) Q := by
  refine ⟨rfl, ?_⟩
  have tW : ∀ {I' : mj_I}, Eqf (frm [13, 15] []) I I' → CT w I' := fun e => hW.f13 e
  have tR : ∀ {I' : mj_I}, Eqf (frm [13, 15] []) I I' → CW w.n 32 33 34 c h m I' := fun e => hR.f13 e (by decide) (by decide) (by decide)
  show mj_run (mj_ev (d + 4)) k141 Q (k141 0) [some (.ref 0), some (.int (nI a)), some (.int (nI (i / 2))), some (.int (nI b)), some (.int (nI (i % 2)))] [] (107, I, L, P) 0 0
  refine q_5 rfl ?_
  refine q_3 rfl ?_
  refine q_3 rfl ?_
  refine q_3 rfl ?_
  refine q_3 rfl ?_
  refine q_47 (mj_ev_mono _) [_, _, _, _] rfl rfl rfl (by decide) rfl rfl rfl ?_
  refine c_142 hP hW hR ha hb (by omega) (by omega) (fun I1 e1 => ?_)
  refine q_5 rfl ?_
  refine q_3 rfl ?_
  refine q_0 ?_
  refine q_3 rfl ?_
  first | refine q_sub (by omega) ?_ | refine q_11 rfl ?_
  refine q_3 rfl ?_
  refine q_3 rfl ?_
  refine q_47 (mj_ev_mono _) [_, _, _, _] rfl rfl rfl (by decide) rfl rfl rfl ?_
  refine c_142 hP (tW e1) (tR e1) ha hb (by omega) (by omega) (fun I2 e2 => ?_)
  refine q_ltI (fun h1 => ?_) (fun h1 => ?_)
  · refine q_0 ?_
    refine q_27 (by first | exact Or.inl rfl | exact Or.inr rfl | assumption | (split <;> first | exact Or.inl rfl | exact Or.inr rfl)) ?_
    first | exact kQ (k I2 (e1.tr e2)) (by rw [show gmp w c h a b i = false from decide_eq_false (fun q => q.1 h1)]; rfl) | exact kQ (k I4 (((e1.tr e2).tr e3).tr e4)) (by rw [show gmp w c h a b i = false from decide_eq_false (fun q => q.2 h2)]; rfl) | exact kQ (k I4 (((e1.tr e2).tr e3).tr e4)) (by rw [show gmp w c h a b i = true from decide_eq_true ⟨h1, h2⟩]; rfl)
  · refine q_5 rfl ?_
    refine q_3 rfl ?_
    refine q_3 rfl ?_
    refine q_3 rfl ?_
    refine q_3 rfl ?_
    refine q_47 (mj_ev_mono _) [_, _, _, _] rfl rfl rfl (by decide) rfl rfl rfl ?_
    refine c_142 hP (tW (e1.tr e2)) (tR (e1.tr e2)) hb ha (by omega) (by omega) (fun I3 e3 => ?_)
    refine q_5 rfl ?_
    refine q_3 rfl ?_
    refine q_0 ?_
    refine q_3 rfl ?_
    first | refine q_sub (by omega) ?_ | refine q_11 rfl ?_
    refine q_3 rfl ?_
    refine q_3 rfl ?_
    refine q_47 (mj_ev_mono _) [_, _, _, _] rfl rfl rfl (by decide) rfl rfl rfl ?_
    refine c_142 hP (tW ((e1.tr e2).tr e3)) (tR ((e1.tr e2).tr e3)) hb ha (by omega) (by omega) (fun I4 e4 => ?_)
    refine q_ltI (fun h2 => ?_) (fun h2 => ?_)
    · refine q_0 ?_
      refine q_27 (by first | exact Or.inl rfl | exact Or.inr rfl | assumption | (split <;> first | exact Or.inl rfl | exact Or.inr rfl)) ?_
      first | exact kQ (k I2 (e1.tr e2)) (by rw [show gmp w c h a b i = false from decide_eq_false (fun q => q.1 h1)]; rfl) | exact kQ (k I4 (((e1.tr e2).tr e3).tr e4)) (by rw [show gmp w c h a b i = false from decide_eq_false (fun q => q.2 h2)]; rfl) | exact kQ (k I4 (((e1.tr e2).tr e3).tr e4)) (by rw [show gmp w c h a b i = true from decide_eq_true ⟨h1, h2⟩]; rfl)
    · refine q_0 ?_
      refine q_23 ?_
      refine q_27 (by first | exact Or.inl rfl | exact Or.inr rfl | assumption | (split <;> first | exact Or.inl rfl | exact Or.inr rfl)) ?_
      first | exact kQ (k I2 (e1.tr e2)) (by rw [show gmp w c h a b i = false from decide_eq_false (fun q => q.1 h1)]; rfl) | exact kQ (k I4 (((e1.tr e2).tr e3).tr e4)) (by rw [show gmp w c h a b i = false from decide_eq_false (fun q => q.2 h2)]; rfl) | exact kQ (k I4 (((e1.tr e2).tr e3).tr e4)) (by rw [show gmp w c h a b i = true from decide_eq_true ⟨h1, h2⟩]; rfl)
theorem c_140 {x : Nat} (hP : PS t P) (hS : CS A I) (ha : a < A.w.n) (hb : b < A.w.n) (hab : a ≠ b) (hx : x ≤ 1) (k : kC Q I L P A (.inl (some (.int (sGame A.w A.c A.h a b x))))) : mj_ev (d + 12) 140 [.ref 0, .int (nI a), .int (nI b), .int (nI x)] (107, I, L, P) Q := by
  refine ⟨rfl, ?_⟩
  have hn := hS.cb.hn
  have hn10 := hS.cb.n10
  have out : ∀ I', Eqf (frm [13, 15] []) I I' → mj_run (mj_ev (d + 11)) k140 Q (k140 40) [some (.ref 0), some (.int (nI a)), some (.int (nI b)), some (.int (nI x)), some (.int (nI (cntF (gmp A.w A.c A.h a b) 4 - cntF (gmp A.w A.c A.h a b) 0))), some (.int (mI ((fnd 4 0 (gmp A.w A.c A.h a b)).map (fun k => 10 * (k / 2) + k % 2)))), some (.int (nI 0 - nI 1))] [] (107, I', L, P) 1 6 := by
    intro I' e'
    obtain rfl | rfl : x = 0 ∨ x = 1 := by omega
    · refine q_3 rfl ?_
      refine q_ltI0 (fun hh => ?_) (fun hh => absurd (by decide) hh)
      refine q_3 rfl ?_
      first | refine q_neN0 (by omega) (fun hh => absurd hh (by omega)) (fun hh => ?_) | refine q_neI0 (fun hh => absurd hh (by omega)) (fun hh => ?_)
      refine q_3 rfl ?_
      refine q_23 ?_
      refine q_26 ?_
      exact k.fm e' (hS.f13 e') rfl rfl
    · refine q_3 rfl ?_
      refine q_ltI0 (fun hh => ?_) (fun hh => absurd (by decide) hh)
      refine q_3 rfl ?_
      first | refine q_neN0 (by omega) (fun hh => ?_) (fun hh => absurd hh (by omega)) | refine q_neI0 (fun hh => ?_) (fun hh => absurd (by omega) hh)
      refine q_3 rfl ?_
      refine q_26 ?_
      exact k.fm e' (hS.f13 e') rfl rfl
  have L40 : ∀ i, i ≤ 3 → ∀ I', Eqf (frm [13, 15] []) I I' → mj_run (mj_ev (d + 11)) k140 Q (k140 40) [some (.ref 0), some (.int (nI a)), some (.int (nI b)), some (.int (nI x)), some (.int (nI (cntF (gmp A.w A.c A.h a b) 4 - cntF (gmp A.w A.c A.h a b) (i + 1)))), some (.int (mI ((fnd 4 (i + 1) (gmp A.w A.c A.h a b)).map (fun k => 10 * (k / 2) + k % 2)))), some (.int (nI i))] [] (107, I', L, P) 1 6 := by
    have nx : ∀ i, i ≤ 3 → (∀ I', Eqf (frm [13, 15] []) I I' → ∀ x6, (x6 = nI i - nI 1) → mj_run (mj_ev (d + 11)) k140 Q (k140 40) [some (.ref 0), some (.int (nI a)), some (.int (nI b)), some (.int (nI x)), some (.int (nI (cntF (gmp A.w A.c A.h a b) 4 - cntF (gmp A.w A.c A.h a b) i))), some (.int (mI ((fnd 4 i (gmp A.w A.c A.h a b)).map (fun k => 10 * (k / 2) + k % 2)))), some (.int x6)] [] (107, I', L, P) 1 6) → ∀ I', Eqf (frm [13, 15] []) I I' → mj_run (mj_ev (d + 11)) k140 Q (k140 40) [some (.ref 0), some (.int (nI a)), some (.int (nI b)), some (.int (nI x)), some (.int (nI (cntF (gmp A.w A.c A.h a b) 4 - cntF (gmp A.w A.c A.h a b) (i + 1)))), some (.int (mI ((fnd 4 (i + 1) (gmp A.w A.c A.h a b)).map (fun k => 10 * (k / 2) + k % 2)))), some (.int (nI i))] [] (107, I', L, P) 1 6 := by
      intro i hi go I' e'
      have m1 := cntF_mono (gmp A.w A.c A.h a b) (show i + 1 ≤ 4 by omega)
      have m2 : cntF (gmp A.w A.c A.h a b) (i + 1) = cntF (gmp A.w A.c A.h a b) i + (if gmp A.w A.c A.h a b i = true then 1 else 0) := rfl
      cases hp : gmp A.w A.c A.h a b i with
      | false =>
        rw [hp, if_neg (by decide)] at m2
        rw [fnd_no (by omega) hp] at go
        rw [m2, Nat.add_zero]
        refine q_3 rfl ?_
        first | refine q_ltN0 (by omega) ?_ | refine q_ltI0 (fun hh => absurd hh (by omega)) (fun hh => ?_)
        refine q_5 rfl ?_
        refine q_3 rfl ?_
        refine q_3 rfl ?_
        refine q_0 ?_
        refine q_11 rfl ?_
        rw [shr1 (by omega)]
        refine q_3 rfl ?_
        refine q_3 rfl ?_
        refine q_0 ?_
        refine q_11 rfl ?_
        rw [and1 (by omega)]
        refine q_47 (mj_ev_mono _) [_, _, _, _] rfl rfl rfl (by decide) rfl rfl rfl ?_
        refine c_141 hP (hS.cb.ct.f13 e') (hS.cb.cw.f13 e' (by decide) (by decide) (by decide)) ha hb hi (fun I1 e1 => ?_)
        rw [hp, if_neg (by decide)]
        first | refine q_eqN0 (by omega) (fun hh => ?_) (fun hh => absurd hh (by omega)) | refine q_eqI0 (fun hh => ?_) (fun hh => absurd (by omega) hh)
        refine q_10 rfl rfl rfl ?_
        refine q_23 ?_
        exact go I1 (e'.tr e1) _ rfl
      | true =>
        rw [hp, if_pos rfl] at m2
        rw [fnd_yes (by omega) hp] at go
        have e3 : cntF (gmp A.w A.c A.h a b) 4 - cntF (gmp A.w A.c A.h a b) (i + 1) + 1 = cntF (gmp A.w A.c A.h a b) 4 - cntF (gmp A.w A.c A.h a b) i := by omega
        refine q_3 rfl ?_
        first | refine q_ltN0 (by omega) ?_ | refine q_ltI0 (fun hh => absurd hh (by omega)) (fun hh => ?_)
        refine q_5 rfl ?_
        refine q_3 rfl ?_
        refine q_3 rfl ?_
        refine q_0 ?_
        refine q_11 rfl ?_
        rw [shr1 (by omega)]
        refine q_3 rfl ?_
        refine q_3 rfl ?_
        refine q_0 ?_
        refine q_11 rfl ?_
        rw [and1 (by omega)]
        refine q_47 (mj_ev_mono _) [_, _, _, _] rfl rfl rfl (by decide) rfl rfl rfl ?_
        refine c_141 hP (hS.cb.ct.f13 e') (hS.cb.cw.f13 e' (by decide) (by decide) (by decide)) ha hb hi (fun I1 e1 => ?_)
        rw [hp, if_pos rfl]
        first | refine q_eqN0 (by omega) (fun hh => absurd hh (by omega)) (fun hh => ?_) | refine q_eqI0 (fun hh => absurd hh (by omega)) (fun hh => ?_)
        first | refine q_inc rfl rfl rfl ?_ | refine q_9 rfl rfl rfl ?_
        refine q_0 ?_
        refine q_3 rfl ?_
        refine q_0 ?_
        refine q_11 rfl ?_
        rw [shr1 (by omega)]
        first | refine q_mul ?_ | refine q_11 rfl ?_
        refine q_3 rfl ?_
        refine q_0 ?_
        refine q_11 rfl ?_
        rw [and1 (by omega)]
        first | refine q_add ?_ | refine q_11 rfl ?_
        refine q_6 rfl rfl rfl ?_
        refine q_10 rfl rfl rfl ?_
        refine q_23 ?_
        rw [e3]
        exact go I1 (e'.tr e1) _ rfl
    intro i
    induction i with
    | zero =>
      intro _
      exact nx 0 (by omega) (fun I' e' x6 h6 => by subst h6; exact out I' e')
    | succ i ih =>
      intro hi
      exact nx (i + 1) hi (fun I' e' x6 h6 => by
        have e : x6 = nI i := by rw [h6, pk_sub (by omega)]; rfl
        subst e
        exact ih (by omega) I' e')
  show mj_run (mj_ev (d + 11)) k140 Q (k140 0) [some (.ref 0), some (.int (nI a)), some (.int (nI b)), some (.int (nI x)), none, none, none] [] (107, I, L, P) 4 24
  refine q_5 rfl ?_
  refine q_3 rfl ?_
  refine q_47 (mj_ev_mono _) [_] rfl rfl rfl (by decide) rfl rfl rfl ?_
  first | refine c_149T hP hn hn10 ha ?_ | refine c_149T hP hn hn10 hb ?_
  refine q_5 rfl ?_
  refine q_3 rfl ?_
  refine q_47 (mj_ev_mono _) [_] rfl rfl rfl (by decide) rfl rfl rfl ?_
  first | refine c_149T hP hn hn10 ha ?_ | refine c_149T hP hn hn10 hb ?_
  refine q_3 rfl ?_
  refine q_0 ?_
  refine q_48 (mj_ev_mono _) [_, _] rfl rfl rfl rfl rfl ?_
  refine c_150T hx (by omega) ?_
  refine q_3 rfl ?_
  refine q_3 rfl ?_
  refine q_neN (by omega) (by omega) (fun hh => ?_) (fun hh => absurd hh (by omega))
  refine q_0 ?_
  refine q_6 rfl rfl rfl ?_
  refine q_1 ?_
  refine q_6 rfl rfl rfl ?_
  refine q_0 ?_
  refine q_6 rfl rfl rfl ?_
  have := L40 3 (by omega) I Eqf.rf
  rw [Nat.sub_self] at this
  exact this
theorem c_124F {x : Int32} (hP : PS t P) (hS : CS A I) (hx : x < -(nI 1) ∨ nI A.w.n ≤ x) (k : kC Q I L P A (.inr 0)) : mj_ev (d + 12) 124 [.ref 0, .int x] (107, I, L, P) Q := by
  refine ⟨rfl, ?_⟩
  have hn := hS.cb.hn
  have hn10 := hS.cb.n10
  have hne : ¬ x = -(nI 1) := by
    rintro rfl
    rcases hx with h1 | h1
    · exact absurd h1 (by decide)
    · exact absurd h1 (Int32.not_le.mpr (by
        have : -(nI 1) < 0 := by decide
        have h2 := nI_pos' (n := A.w.n) (by omega)
        exact Int32.lt_iff_toInt_lt.mpr (by have h5 := Int32.lt_iff_toInt_lt.mp this; have h6 := Int32.le_iff_toInt_le.mp h2; omega)))
  have hx' : x < 0 ∨ nI A.w.n ≤ x := hx.imp (fun q => Int32.lt_iff_toInt_lt.mpr (by
    have h5 := Int32.lt_iff_toInt_lt.mp q
    have h6 : (-(nI 1)).toInt = -1 := by decide
    have h7 : (0 : Int32).toInt = 0 := by decide
    omega)) id
  show mj_run (mj_ev (d + 11)) k124 Q (k124 0) [some (.ref 0), some (.int x), none, none] [] (107, I, L, P) 1 6
  refine q_3 rfl ?_
  refine q_1 ?_
  refine q_eqI (fun z => absurd z hne) (fun _ => ?_)
  refine q_5 rfl ?_
  refine q_3 rfl ?_
  refine q_47 (mj_ev_mono _) [_] rfl rfl rfl (by decide) rfl rfl rfl ?_
  refine c_149F hP hn hn10 hx' ?_
  exact k.same hS rfl
  skip
theorem c_126F {x : Int32} (hP : PS t P) (hS : CS A I) (hx : x < -(nI 1) ∨ nI A.w.n ≤ x) (k : kC Q I L P A (.inr 0)) : mj_ev (d + 12) 126 [.ref 0, .int x] (107, I, L, P) Q := by
  refine ⟨rfl, ?_⟩
  have hn := hS.cb.hn
  have hn10 := hS.cb.n10
  have hne : ¬ x = -(nI 1) := by
    rintro rfl
    rcases hx with h1 | h1
    · exact absurd h1 (by decide)
    · exact absurd h1 (Int32.not_le.mpr (by
        have : -(nI 1) < 0 := by decide
        have h2 := nI_pos' (n := A.w.n) (by omega)
        exact Int32.lt_iff_toInt_lt.mpr (by have h5 := Int32.lt_iff_toInt_lt.mp this; have h6 := Int32.le_iff_toInt_le.mp h2; omega)))
  have hx' : x < 0 ∨ nI A.w.n ≤ x := hx.imp (fun q => Int32.lt_iff_toInt_lt.mpr (by
    have h5 := Int32.lt_iff_toInt_lt.mp q
    have h6 : (-(nI 1)).toInt = -1 := by decide
    have h7 : (0 : Int32).toInt = 0 := by decide
    omega)) id
  show mj_run (mj_ev (d + 11)) k126 Q (k126 0) [some (.ref 0), some (.int x)] [] (107, I, L, P) 1 6
  refine q_3 rfl ?_
  refine q_1 ?_
  refine q_eqI (fun z => absurd z hne) (fun _ => ?_)
  refine q_5 rfl ?_
  refine q_3 rfl ?_
  refine q_47 (mj_ev_mono _) [_] rfl rfl rfl (by decide) rfl rfl rfl ?_
  refine c_149F hP hn hn10 hx' ?_
  exact k.same hS rfl
  skip
end C
