/-! the model: ways at rest -/
def wI : Option Nat → Int32
  | none => nI 10
  | some q => nI q
/-- with whom one is, while it is gone through -/
def wth (S : Nat → Bool) (m : MM) (q : Nat) : Int32 := if S q = true then -(nI 1) else wI (m q)
def WH (n : Nat) (S : Nat → Bool) (m : MM) (I : mj_I) : Prop := ∀ q, q < n → I 97 q = wth S m q
def LK (li : Nat → Nat → Int32) (n : Nat) (I : mj_I) : Prop := ∀ a b, a < n → b < n → I 96 (10 * a + b) = if a = b then nI 0 else li a b
def inR (R : List MM) (p q : Nat) : Bool := R.any (fun m => decide (m p = some q))
def RA (n : Nat) (R : List MM) (I : mj_I) : Prop := I 73 50 = nI R.length ∧ (∀ p, p < n → I 98 p = wI ((R.head?.getD (fun _ => none)) p)) ∧ (∀ p, p < n → I 99 p = nI (maskF (inR R p) n))
def FR (c j : Nat) : Bool := c == 97 || c == 98 || c == 99 || (c == 73 && j == 50)
section M
variable {I : mj_I} {L : mj_L} {P : mj_P} {Q : mj_Q} {d n r t a b : Nat} {A : AS} {w : WT} {c h : Nat → Nat} {m : MM} {S : Nat → Bool} {al li : Nat → Nat → Int32} {fr : Nat → Bool}
theorem s_250 (hP : PS t P) (hn10 : n ≤ 10) (ha : a < n) (hb : b < n) (hab : a ≠ b) (hg : gm n m) (hW : I 97 a = wI (m a)) (hL : LK li n I) (k : Q (.inl (some (.int (nI (if wl li m a b then 1 else 0))))) (107, I, L, P)) : mj_ev (d + 1) 250 [.ref 73, .int (nI a), .int (nI b)] (107, I, L, P) Q := by
  refine ⟨rfl, ?_⟩
  show mj_run (mj_ev d) k250 Q (k250 0) [some (.ref 73), some (.int (nI a)), some (.int (nI b))] [] (107, I, L, P) 0 0
  have l1 : I 96 (10 * a + b) = li a b := by rw [hL a b ha hb, if_neg hab]
  cases hm : m a with
  | none =>
    rw [hm] at hW
    have hW' : I 97 a = nI 10 := hW
    refine q_5 rfl ?_
    refine q_33 rfl (by decide) (hP _ _ _ rfl) ?_
    refine q_3 rfl ?_
    first | refine q_38E _ rfl (by decide) rfl (by show _ < 10; omega) (by decide) (hW') ?_ | refine q_38 _ rfl (by decide) rfl (by show _ < 10; omega) (by decide) ?_
    refine q_0 ?_
    refine q_eqN (by omega) (by omega) (fun hh => ?_) (fun hh => absurd hh (by omega))
    refine q_0 ?_
    refine q_23 ?_
    refine q_27 (by first | exact Or.inl rfl | exact Or.inr rfl | assumption | (split <;> first | exact Or.inl rfl | exact Or.inr rfl)) ?_
    exact kQ k (by unfold wl; rw [hm]; rfl)
  | some q =>
    rw [hm] at hW
    have hW' : I 97 a = nI q := hW
    obtain ⟨hq, hqa, -⟩ := hg a ha q hm
    have l2 : I 96 (10 * a + q) = li a q := by rw [hL a q ha hq, if_neg (fun e => hqa e.symm)]
    refine q_5 rfl ?_
    refine q_33 rfl (by decide) (hP _ _ _ rfl) ?_
    refine q_3 rfl ?_
    first | refine q_38E _ rfl (by decide) rfl (by show _ < 10; omega) (by decide) (hW') ?_ | refine q_38 _ rfl (by decide) rfl (by show _ < 10; omega) (by decide) ?_
    refine q_0 ?_
    refine q_eqN (by omega) (by omega) (fun hh => absurd hh (by omega)) (fun hh => ?_)
    refine q_5 rfl ?_
    refine q_33 rfl (by decide) (hP _ _ _ rfl) ?_
    refine q_0 ?_
    refine q_3 rfl ?_
    first | refine q_mul ?_ | refine q_11 rfl ?_
    refine q_3 rfl ?_
    first | refine q_add ?_ | refine q_11 rfl ?_
    first | refine q_38E _ rfl (by decide) rfl (by show _ < 100; omega) (by decide) (l1) ?_ | refine q_38E _ rfl (by decide) rfl (by show _ < 100; omega) (by decide) (l2) ?_ | refine q_38 _ rfl (by decide) rfl (by show _ < 100; omega) (by decide) ?_
    refine q_5 rfl ?_
    refine q_33 rfl (by decide) (hP _ _ _ rfl) ?_
    refine q_0 ?_
    refine q_3 rfl ?_
    first | refine q_mul ?_ | refine q_11 rfl ?_
    refine q_5 rfl ?_
    refine q_33 rfl (by decide) (hP _ _ _ rfl) ?_
    refine q_3 rfl ?_
    first | refine q_38E _ rfl (by decide) rfl (by show _ < 10; omega) (by decide) (hW') ?_ | refine q_38 _ rfl (by decide) rfl (by show _ < 10; omega) (by decide) ?_
    first | refine q_add ?_ | refine q_11 rfl ?_
    first | refine q_38E _ rfl (by decide) rfl (by show _ < 100; omega) (by decide) (l1) ?_ | refine q_38E _ rfl (by decide) rfl (by show _ < 100; omega) (by decide) (l2) ?_ | refine q_38 _ rfl (by decide) rfl (by show _ < 100; omega) (by decide) ?_
    refine q_leI (fun h1 => ?_) (fun h1 => ?_)
    · refine q_0 ?_
      refine q_27 (by first | exact Or.inl rfl | exact Or.inr rfl | assumption | (split <;> first | exact Or.inl rfl | exact Or.inr rfl)) ?_
      first | exact kQ k (by unfold wl; rw [hm]; simp only [decide_eq_true_eq]; rw [if_neg (Int32.not_lt.mpr h1)]) | exact kQ k (by unfold wl; rw [hm]; simp only [decide_eq_true_eq]; rw [if_pos (Int32.not_le.mp h1)])
    · refine q_0 ?_
      refine q_23 ?_
      refine q_27 (by first | exact Or.inl rfl | exact Or.inr rfl | assumption | (split <;> first | exact Or.inl rfl | exact Or.inr rfl)) ?_
      first | exact kQ k (by unfold wl; rw [hm]; simp only [decide_eq_true_eq]; rw [if_neg (Int32.not_lt.mpr h1)]) | exact kQ k (by unfold wl; rw [hm]; simp only [decide_eq_true_eq]; rw [if_pos (Int32.not_le.mp h1)])
theorem s_251 (hP : PS t P) (hn : I 73 1 = nI n) (hn10 : n ≤ 10) (hg : gm n m) (hW : ∀ q, q < n → I 97 q = wI (m q)) (hA : AL al n I) (hL : LK li n I) (k : Q (.inl (some (.int (nI (if stb (okA al) li fr n m then 1 else 0))))) (107, I, L, P)) : mj_ev (d + 2) 251 [.ref 73, .int (nI (maskF fr n))] (107, I, L, P) Q := by
  refine ⟨rfl, ?_⟩
  have fin1 : (∀ a b, a < n → b < n → (decide (a < b) && blk (okA al) li fr m a b) = false) → Q (.inl (some (.int (nI 1)))) (107, I, L, P) := fun z => kQ k (by
    have : stb (okA al) li fr n m = true := by
      unfold stb
      rw [Bool.not_eq_true']
      refine Bool.eq_false_iff.mpr (fun q => ?_)
      obtain ⟨a, ha, q2⟩ := anyB_iff.mp q
      obtain ⟨b, hb, q3⟩ := anyB_iff.mp q2
      rw [z a b ha hb] at q3
      cases q3
    rw [this]
    rfl)
  have fin0 : ∀ a b, a < n → b < n → a < b → blk (okA al) li fr m a b = true → Q (.inl (some (.int (nI 0)))) (107, I, L, P) := fun a b ha hb hab z => kQ k (by
    have : stb (okA al) li fr n m = false := by
      unfold stb
      rw [Bool.not_eq_false']
      exact anyB_iff.mpr ⟨a, ha, anyB_iff.mpr ⟨b, hb, by rw [z, decide_eq_true hab]; rfl⟩⟩
    rw [this]
    rfl)
  have L2 : ∀ a, a ≤ n → ∀ x3, (∀ x y, x < a → y < n → (decide (x < y) && blk (okA al) li fr m x y) = false) → mj_run (mj_ev (d + 1)) k251 Q (k251 2) [some (.ref 73), some (.int (nI (maskF fr n))), some (.int (nI a)), x3] [] (107, I, L, P) 0 0 := by
    refine loop_up ?_ (fun a ha ih => ?_)
    · intro x3 hz
      refine q_3 rfl ?_
      refine q_5 rfl ?_
      first | refine q_31E rfl (by decide) hn ?_ | refine q_31 rfl (by decide) ?_
      refine q_geN (by omega) (by omega) (fun hh => ?_) (fun hh => absurd hh (by omega))
      refine q_0 ?_
      refine q_27 (by first | exact Or.inl rfl | exact Or.inr rfl | assumption | (split <;> first | exact Or.inl rfl | exact Or.inr rfl)) ?_
      exact fin1 (fun a b ha hb => hz a b ha hb)
    · intro x3 hz
      have L14 : ∀ b, b ≤ n → a + 1 ≤ b → (∀ y, y < b → (decide (a < y) && blk (okA al) li fr m a y) = false) → mj_run (mj_ev (d + 1)) k251 Q (k251 14) [some (.ref 73), some (.int (nI (maskF fr n))), some (.int (nI a)), some (.int (nI b))] [] (107, I, L, P) 0 0 := by
        refine loop_up ?_ (fun b hb ih2 => ?_)
        · intro _ hy
          refine q_3 rfl ?_
          refine q_5 rfl ?_
          first | refine q_31E rfl (by decide) hn ?_ | refine q_31 rfl (by decide) ?_
          refine q_geN (by omega) (by omega) (fun hh => ?_) (fun hh => absurd hh (by omega))
          first | refine q_inc rfl rfl rfl ?_ | refine q_9 rfl rfl rfl ?_
          refine q_23 ?_
          exact ih _ (fun x y hx hyn => by
            by_cases e : x = a
            · rw [e]
              exact hy y hyn
            · exact hz x y (by omega) hyn)
        · intro hab hy
          have next : blk (okA al) li fr m a b = false → mj_run (mj_ev (d + 1)) k251 Q (k251 14) [some (.ref 73), some (.int (nI (maskF fr n))), some (.int (nI a)), some (.int (nI (b + 1)))] [] (107, I, L, P) 0 0 := fun z => ih2 (by omega) (fun y hyb => by
            by_cases e : y = b
            · rw [e, z, Bool.and_false]
            · exact hy y (by omega))
          have a93 : I 93 (10 * a + b) = al a b := by rw [hA a b ha hb, if_neg (by omega)]
          have wa := hW a ha
          have wb := hW b hb
          cases f1 : fr a with
          | false =>
            refine q_3 rfl ?_
            refine q_5 rfl ?_
            first | refine q_31E rfl (by decide) hn ?_ | refine q_31 rfl (by decide) ?_
            refine q_geN (by omega) (by omega) (fun hh => absurd hh (by omega)) (fun hh => ?_)
            refine q_3 rfl ?_
            refine q_3 rfl ?_
            first | refine q_bitT (by assumption) (by omega) (by omega) ?_ | refine q_bitF (by assumption) (by omega) (by omega) ?_ | refine q_bit (by omega) (by omega) ?_ | refine q_bitM (by first | omega | assumption) (by omega) ?_
            first | refine q_eqN0 (by omega) (fun hh => ?_) (fun hh => absurd hh (by omega)) | refine q_eqI0 (fun hh => ?_) (fun hh => absurd (by omega) hh)
            first | refine q_inc rfl rfl rfl ?_ | refine q_9 rfl rfl rfl ?_
            refine q_23 ?_
            exact next (by unfold blk; rw [f1]; rfl)
          | true =>
            cases f2 : fr b with
            | false =>
              refine q_3 rfl ?_
              refine q_5 rfl ?_
              first | refine q_31E rfl (by decide) hn ?_ | refine q_31 rfl (by decide) ?_
              refine q_geN (by omega) (by omega) (fun hh => absurd hh (by omega)) (fun hh => ?_)
              refine q_3 rfl ?_
              refine q_3 rfl ?_
              first | refine q_bitT (by assumption) (by omega) (by omega) ?_ | refine q_bitF (by assumption) (by omega) (by omega) ?_ | refine q_bit (by omega) (by omega) ?_ | refine q_bitM (by first | omega | assumption) (by omega) ?_
              first | refine q_eqN0 (by omega) (fun hh => absurd hh (by omega)) (fun hh => ?_) | refine q_eqI0 (fun hh => absurd hh (by omega)) (fun hh => ?_)
              refine q_3 rfl ?_
              refine q_3 rfl ?_
              first | refine q_bitT (by assumption) (by omega) (by omega) ?_ | refine q_bitF (by assumption) (by omega) (by omega) ?_ | refine q_bit (by omega) (by omega) ?_ | refine q_bitM (by first | omega | assumption) (by omega) ?_
              first | refine q_eqN0 (by omega) (fun hh => ?_) (fun hh => absurd hh (by omega)) | refine q_eqI0 (fun hh => ?_) (fun hh => absurd (by omega) hh)
              first | refine q_inc rfl rfl rfl ?_ | refine q_9 rfl rfl rfl ?_
              refine q_23 ?_
              exact next (by unfold blk; rw [f2]; simp)
            | true =>
              by_cases hok : 0 < al a b
              · have hok' : okA al a b = true := decide_eq_true hok
                by_cases hmb : m a = some b
                · rw [hmb] at wa
                  have wa' : I 97 a = nI b := wa
                  refine q_3 rfl ?_
                  refine q_5 rfl ?_
                  first | refine q_31E rfl (by decide) hn ?_ | refine q_31 rfl (by decide) ?_
                  refine q_geN (by omega) (by omega) (fun hh => absurd hh (by omega)) (fun hh => ?_)
                  refine q_3 rfl ?_
                  refine q_3 rfl ?_
                  first | refine q_bitT (by assumption) (by omega) (by omega) ?_ | refine q_bitF (by assumption) (by omega) (by omega) ?_ | refine q_bit (by omega) (by omega) ?_ | refine q_bitM (by first | omega | assumption) (by omega) ?_
                  first | refine q_eqN0 (by omega) (fun hh => absurd hh (by omega)) (fun hh => ?_) | refine q_eqI0 (fun hh => absurd hh (by omega)) (fun hh => ?_)
                  refine q_3 rfl ?_
                  refine q_3 rfl ?_
                  first | refine q_bitT (by assumption) (by omega) (by omega) ?_ | refine q_bitF (by assumption) (by omega) (by omega) ?_ | refine q_bit (by omega) (by omega) ?_ | refine q_bitM (by first | omega | assumption) (by omega) ?_
                  first | refine q_eqN0 (by omega) (fun hh => absurd hh (by omega)) (fun hh => ?_) | refine q_eqI0 (fun hh => absurd hh (by omega)) (fun hh => ?_)
                  refine q_5 rfl ?_
                  refine q_33 rfl (by decide) (hP _ _ _ rfl) ?_
                  refine q_0 ?_
                  refine q_3 rfl ?_
                  first | refine q_mul ?_ | refine q_11 rfl ?_
                  refine q_3 rfl ?_
                  first | refine q_add ?_ | refine q_11 rfl ?_
                  first | refine q_38E _ rfl (by decide) rfl (by show _ < 100; omega) (by decide) (a93) ?_ | refine q_38 _ rfl (by decide) rfl (by show _ < 100; omega) (by decide) ?_
                  refine q_leI0 (fun z => absurd hok (Int32.not_lt.mpr z)) (fun _ => ?_)
                  refine q_5 rfl ?_
                  refine q_33 rfl (by decide) (hP _ _ _ rfl) ?_
                  refine q_3 rfl ?_
                  first | refine q_38E _ rfl (by decide) rfl (by show _ < 10; omega) (by decide) (wa') ?_ | refine q_38 _ rfl (by decide) rfl (by show _ < 10; omega) (by decide) ?_
                  refine q_3 rfl ?_
                  refine q_neN (by omega) (by omega) (fun hh => absurd hh (by omega)) (fun hh => ?_)
                  refine q_23 ?_
                  first | refine q_inc rfl rfl rfl ?_ | refine q_9 rfl rfl rfl ?_
                  refine q_23 ?_
                  exact next (by unfold blk; rw [hmb]; simp)
                · have wne : ¬ wI (m a) = nI b := by
                    cases e : m a with
                    | none => exact fun z => by have := (nI_eq (by omega) (by omega)).mp (show nI 10 = nI b from z); omega
                    | some q =>
                      have hq := (hg a ha q e).1
                      exact fun z => hmb (by rw [e, (nI_eq (by omega) (by omega)).mp (show nI q = nI b from z)])
                  cases l1 : wl li m a b with
                  | false =>
                    refine q_3 rfl ?_
                    refine q_5 rfl ?_
                    first | refine q_31E rfl (by decide) hn ?_ | refine q_31 rfl (by decide) ?_
                    refine q_geN (by omega) (by omega) (fun hh => absurd hh (by omega)) (fun hh => ?_)
                    refine q_3 rfl ?_
                    refine q_3 rfl ?_
                    first | refine q_bitT (by assumption) (by omega) (by omega) ?_ | refine q_bitF (by assumption) (by omega) (by omega) ?_ | refine q_bit (by omega) (by omega) ?_ | refine q_bitM (by first | omega | assumption) (by omega) ?_
                    first | refine q_eqN0 (by omega) (fun hh => absurd hh (by omega)) (fun hh => ?_) | refine q_eqI0 (fun hh => absurd hh (by omega)) (fun hh => ?_)
                    refine q_3 rfl ?_
                    refine q_3 rfl ?_
                    first | refine q_bitT (by assumption) (by omega) (by omega) ?_ | refine q_bitF (by assumption) (by omega) (by omega) ?_ | refine q_bit (by omega) (by omega) ?_ | refine q_bitM (by first | omega | assumption) (by omega) ?_
                    first | refine q_eqN0 (by omega) (fun hh => absurd hh (by omega)) (fun hh => ?_) | refine q_eqI0 (fun hh => absurd hh (by omega)) (fun hh => ?_)
                    refine q_5 rfl ?_
                    refine q_33 rfl (by decide) (hP _ _ _ rfl) ?_
                    refine q_0 ?_
                    refine q_3 rfl ?_
                    first | refine q_mul ?_ | refine q_11 rfl ?_
                    refine q_3 rfl ?_
                    first | refine q_add ?_ | refine q_11 rfl ?_
                    first | refine q_38E _ rfl (by decide) rfl (by show _ < 100; omega) (by decide) (a93) ?_ | refine q_38 _ rfl (by decide) rfl (by show _ < 100; omega) (by decide) ?_
                    refine q_leI0 (fun z => absurd hok (Int32.not_lt.mpr z)) (fun _ => ?_)
                    refine q_5 rfl ?_
                    refine q_33 rfl (by decide) (hP _ _ _ rfl) ?_
                    refine q_3 rfl ?_
                    first | refine q_38E _ rfl (by decide) rfl (by show _ < 10; omega) (by decide) (wa) ?_ | refine q_38 _ rfl (by decide) rfl (by show _ < 10; omega) (by decide) ?_
                    refine q_3 rfl ?_
                    refine q_neI (fun _ => ?_) (fun z => absurd wne z)
                    refine q_5 rfl ?_
                    refine q_3 rfl ?_
                    refine q_3 rfl ?_
                    refine q_47 (mj_ev_mono _) [_, _] rfl rfl rfl (by decide) rfl rfl rfl ?_
                    refine s_250 hP hn10 ha hb (by omega) hg wa hL ?_
                    rw [l1]
                    first | refine q_eqN0 (by omega) (fun hh => ?_) (fun hh => absurd hh (by omega)) | refine q_eqI0 (fun hh => ?_) (fun hh => absurd (by decide) hh)
                    first | refine q_inc rfl rfl rfl ?_ | refine q_9 rfl rfl rfl ?_
                    refine q_23 ?_
                    exact next (by unfold blk; rw [l1]; simp)
                  | true =>
                    cases l2 : wl li m b a with
                    | false =>
                      refine q_3 rfl ?_
                      refine q_5 rfl ?_
                      first | refine q_31E rfl (by decide) hn ?_ | refine q_31 rfl (by decide) ?_
                      refine q_geN (by omega) (by omega) (fun hh => absurd hh (by omega)) (fun hh => ?_)
                      refine q_3 rfl ?_
                      refine q_3 rfl ?_
                      first | refine q_bitT (by assumption) (by omega) (by omega) ?_ | refine q_bitF (by assumption) (by omega) (by omega) ?_ | refine q_bit (by omega) (by omega) ?_ | refine q_bitM (by first | omega | assumption) (by omega) ?_
                      first | refine q_eqN0 (by omega) (fun hh => absurd hh (by omega)) (fun hh => ?_) | refine q_eqI0 (fun hh => absurd hh (by omega)) (fun hh => ?_)
                      refine q_3 rfl ?_
                      refine q_3 rfl ?_
                      first | refine q_bitT (by assumption) (by omega) (by omega) ?_ | refine q_bitF (by assumption) (by omega) (by omega) ?_ | refine q_bit (by omega) (by omega) ?_ | refine q_bitM (by first | omega | assumption) (by omega) ?_
                      first | refine q_eqN0 (by omega) (fun hh => absurd hh (by omega)) (fun hh => ?_) | refine q_eqI0 (fun hh => absurd hh (by omega)) (fun hh => ?_)
                      refine q_5 rfl ?_
                      refine q_33 rfl (by decide) (hP _ _ _ rfl) ?_
                      refine q_0 ?_
                      refine q_3 rfl ?_
                      first | refine q_mul ?_ | refine q_11 rfl ?_
                      refine q_3 rfl ?_
                      first | refine q_add ?_ | refine q_11 rfl ?_
                      first | refine q_38E _ rfl (by decide) rfl (by show _ < 100; omega) (by decide) (a93) ?_ | refine q_38 _ rfl (by decide) rfl (by show _ < 100; omega) (by decide) ?_
                      refine q_leI0 (fun z => absurd hok (Int32.not_lt.mpr z)) (fun _ => ?_)
                      refine q_5 rfl ?_
                      refine q_33 rfl (by decide) (hP _ _ _ rfl) ?_
                      refine q_3 rfl ?_
                      first | refine q_38E _ rfl (by decide) rfl (by show _ < 10; omega) (by decide) (wa) ?_ | refine q_38 _ rfl (by decide) rfl (by show _ < 10; omega) (by decide) ?_
                      refine q_3 rfl ?_
                      refine q_neI (fun _ => ?_) (fun z => absurd wne z)
                      refine q_5 rfl ?_
                      refine q_3 rfl ?_
                      refine q_3 rfl ?_
                      refine q_47 (mj_ev_mono _) [_, _] rfl rfl rfl (by decide) rfl rfl rfl ?_
                      refine s_250 hP hn10 ha hb (by omega) hg wa hL ?_
                      rw [l1]
                      first | refine q_eqN0 (by omega) (fun hh => absurd hh (by omega)) (fun hh => ?_) | refine q_eqI0 (fun hh => absurd hh (by decide)) (fun hh => ?_)
                      refine q_5 rfl ?_
                      refine q_3 rfl ?_
                      refine q_3 rfl ?_
                      refine q_47 (mj_ev_mono _) [_, _] rfl rfl rfl (by decide) rfl rfl rfl ?_
                      refine s_250 hP hn10 hb ha (by omega) hg wb hL ?_
                      rw [l2]
                      first | refine q_eqN0 (by omega) (fun hh => ?_) (fun hh => absurd hh (by omega)) | refine q_eqI0 (fun hh => ?_) (fun hh => absurd (by decide) hh)
                      first | refine q_inc rfl rfl rfl ?_ | refine q_9 rfl rfl rfl ?_
                      refine q_23 ?_
                      exact next (by unfold blk; rw [l2]; simp)
                    | true =>
                      refine q_3 rfl ?_
                      refine q_5 rfl ?_
                      first | refine q_31E rfl (by decide) hn ?_ | refine q_31 rfl (by decide) ?_
                      refine q_geN (by omega) (by omega) (fun hh => absurd hh (by omega)) (fun hh => ?_)
                      refine q_3 rfl ?_
                      refine q_3 rfl ?_
                      first | refine q_bitT (by assumption) (by omega) (by omega) ?_ | refine q_bitF (by assumption) (by omega) (by omega) ?_ | refine q_bit (by omega) (by omega) ?_ | refine q_bitM (by first | omega | assumption) (by omega) ?_
                      first | refine q_eqN0 (by omega) (fun hh => absurd hh (by omega)) (fun hh => ?_) | refine q_eqI0 (fun hh => absurd hh (by omega)) (fun hh => ?_)
                      refine q_3 rfl ?_
                      refine q_3 rfl ?_
                      first | refine q_bitT (by assumption) (by omega) (by omega) ?_ | refine q_bitF (by assumption) (by omega) (by omega) ?_ | refine q_bit (by omega) (by omega) ?_ | refine q_bitM (by first | omega | assumption) (by omega) ?_
                      first | refine q_eqN0 (by omega) (fun hh => absurd hh (by omega)) (fun hh => ?_) | refine q_eqI0 (fun hh => absurd hh (by omega)) (fun hh => ?_)
                      refine q_5 rfl ?_
                      refine q_33 rfl (by decide) (hP _ _ _ rfl) ?_
                      refine q_0 ?_
                      refine q_3 rfl ?_
                      first | refine q_mul ?_ | refine q_11 rfl ?_
                      refine q_3 rfl ?_
                      first | refine q_add ?_ | refine q_11 rfl ?_
                      first | refine q_38E _ rfl (by decide) rfl (by show _ < 100; omega) (by decide) (a93) ?_ | refine q_38 _ rfl (by decide) rfl (by show _ < 100; omega) (by decide) ?_
                      refine q_leI0 (fun z => absurd hok (Int32.not_lt.mpr z)) (fun _ => ?_)
                      refine q_5 rfl ?_
                      refine q_33 rfl (by decide) (hP _ _ _ rfl) ?_
                      refine q_3 rfl ?_
                      first | refine q_38E _ rfl (by decide) rfl (by show _ < 10; omega) (by decide) (wa) ?_ | refine q_38 _ rfl (by decide) rfl (by show _ < 10; omega) (by decide) ?_
                      refine q_3 rfl ?_
                      refine q_neI (fun _ => ?_) (fun z => absurd wne z)
                      refine q_5 rfl ?_
                      refine q_3 rfl ?_
                      refine q_3 rfl ?_
                      refine q_47 (mj_ev_mono _) [_, _] rfl rfl rfl (by decide) rfl rfl rfl ?_
                      refine s_250 hP hn10 ha hb (by omega) hg wa hL ?_
                      rw [l1]
                      first | refine q_eqN0 (by omega) (fun hh => absurd hh (by omega)) (fun hh => ?_) | refine q_eqI0 (fun hh => absurd hh (by decide)) (fun hh => ?_)
                      refine q_5 rfl ?_
                      refine q_3 rfl ?_
                      refine q_3 rfl ?_
                      refine q_47 (mj_ev_mono _) [_, _] rfl rfl rfl (by decide) rfl rfl rfl ?_
                      refine s_250 hP hn10 hb ha (by omega) hg wb hL ?_
                      rw [l2]
                      first | refine q_eqN0 (by omega) (fun hh => absurd hh (by omega)) (fun hh => ?_) | refine q_eqI0 (fun hh => absurd hh (by decide)) (fun hh => ?_)
                      refine q_0 ?_
                      refine q_27 (by first | exact Or.inl rfl | exact Or.inr rfl | assumption | (split <;> first | exact Or.inl rfl | exact Or.inr rfl)) ?_
                      exact fin0 a b ha hb (by omega) (by unfold blk; rw [f1, f2, hok', l1, l2]; simp [hmb])
              · refine q_3 rfl ?_
                refine q_5 rfl ?_
                first | refine q_31E rfl (by decide) hn ?_ | refine q_31 rfl (by decide) ?_
                refine q_geN (by omega) (by omega) (fun hh => absurd hh (by omega)) (fun hh => ?_)
                refine q_3 rfl ?_
                refine q_3 rfl ?_
                first | refine q_bitT (by assumption) (by omega) (by omega) ?_ | refine q_bitF (by assumption) (by omega) (by omega) ?_ | refine q_bit (by omega) (by omega) ?_ | refine q_bitM (by first | omega | assumption) (by omega) ?_
                first | refine q_eqN0 (by omega) (fun hh => absurd hh (by omega)) (fun hh => ?_) | refine q_eqI0 (fun hh => absurd hh (by omega)) (fun hh => ?_)
                refine q_3 rfl ?_
                refine q_3 rfl ?_
                first | refine q_bitT (by assumption) (by omega) (by omega) ?_ | refine q_bitF (by assumption) (by omega) (by omega) ?_ | refine q_bit (by omega) (by omega) ?_ | refine q_bitM (by first | omega | assumption) (by omega) ?_
                first | refine q_eqN0 (by omega) (fun hh => absurd hh (by omega)) (fun hh => ?_) | refine q_eqI0 (fun hh => absurd hh (by omega)) (fun hh => ?_)
                refine q_5 rfl ?_
                refine q_33 rfl (by decide) (hP _ _ _ rfl) ?_
                refine q_0 ?_
                refine q_3 rfl ?_
                first | refine q_mul ?_ | refine q_11 rfl ?_
                refine q_3 rfl ?_
                first | refine q_add ?_ | refine q_11 rfl ?_
                first | refine q_38E _ rfl (by decide) rfl (by show _ < 100; omega) (by decide) (a93) ?_ | refine q_38 _ rfl (by decide) rfl (by show _ < 100; omega) (by decide) ?_
                refine q_leI0 (fun _ => ?_) (fun z => absurd (Int32.not_lt.mp hok) z)
                first | refine q_inc rfl rfl rfl ?_ | refine q_9 rfl rfl rfl ?_
                refine q_23 ?_
                exact next (by unfold blk okA; simp [hok])
      refine q_3 rfl ?_
      refine q_5 rfl ?_
      first | refine q_31E rfl (by decide) hn ?_ | refine q_31 rfl (by decide) ?_
      refine q_geN (by omega) (by omega) (fun hh => absurd hh (by omega)) (fun hh => ?_)
      refine q_3 rfl ?_
      refine q_0 ?_
      first | refine q_add ?_ | refine q_11 rfl ?_
      refine q_6 rfl rfl rfl ?_
      exact L14 (a + 1) (by omega) (Nat.le_refl _) (fun y hy => by rw [decide_eq_false (by omega)]; rfl)
  show mj_run (mj_ev (d + 1)) k251 Q (k251 0) [some (.ref 73), some (.int (nI (maskF fr n))), none, none] [] (107, I, L, P) 0 0
  refine q_0 ?_
  refine q_6 rfl rfl rfl ?_
  exact L2 0 (by omega) _ (fun x y hx _ => absurd hx (by omega))
theorem s_252 {R : List MM} (hP : PS t P) (hn : I 73 1 = nI n) (hn10 : n ≤ 10) (hg : gm n m) (hW : ∀ q, q < n → I 97 q = wI (m q)) (hR : RA n R I) (hl : R.length + 1 < 2 ^ 31) (k : ∀ I', Eqf (fun c j => c == 98 || c == 99 || (c == 73 && j == 50)) I I' → RA n (R ++ [m]) I' → Q (.inl none) (107, I', L, P)) : mj_ev (d + 2) 252 [.ref 73] (107, I, L, P) Q := by
  refine ⟨rfl, ?_⟩
  obtain ⟨h50, h98, h99⟩ := hR
  have j50 : mj_upI I 73 50 (nI (R.length + 1)) 73 50 = nI (R.length + 1) := upI_s
  have L32 : ∀ I1, Eqf (fun c j => c == 98 || (c == 73 && j == 50)) I I1 → I1 73 50 = nI (R ++ [m]).length → (∀ p, p < n → I1 98 p = wI (((R ++ [m]).head?.getD (fun _ => none)) p)) → ∀ i, i ≤ n → ∀ I', Eqf (fun c j => c == 99) I1 I' → (∀ p, p < i → I' 99 p = nI (maskF (inR (R ++ [m]) p) n)) → (∀ p, i ≤ p → p < n → I' 99 p = nI (maskF (inR R p) n)) → mj_run (mj_ev (d + 1)) k252 Q (k252 32) [some (.ref 73), some (.int (nI i))] [] (107, I', L, P) 0 0 := by
    intro I1 e1 g50 g98
    refine loop_up ?_ (fun i hi ih => ?_)
    · intro I' e' z1 z2
      have hn' : I' 73 1 = nI n := (e' 73 1 rfl).trans ((e1 73 1 rfl).trans hn)
      refine q_3 rfl ?_
      refine q_5 rfl ?_
      first | refine q_31E rfl (by decide) hn' ?_ | refine q_31 rfl (by decide) ?_
      refine q_geN (by omega) (by omega) (fun hh => ?_) (fun hh => absurd hh (by omega))
      refine q_25 ?_
      refine k I' (fun c j q => ?_) ⟨(e' 73 50 rfl).trans g50, fun p hp => (e' 98 p rfl).trans (g98 p hp), z1⟩
      simp only [Bool.or_eq_false_iff] at q
      rw [e' c j q.1.2, e1 c j (by simp only [Bool.or_eq_false_iff]; exact ⟨q.1.1, q.2⟩)]
    · intro I' e' z1 z2
      have hn' : I' 73 1 = nI n := (e' 73 1 rfl).trans ((e1 73 1 rfl).trans hn)
      have w97 : I' 97 i = wI (m i) := (e' 97 i rfl).trans ((e1 97 i rfl).trans (hW i hi))
      have w99 := z2 i (Nat.le_refl _) hi
      have fin : ∀ v, v = maskF (inR (R ++ [m]) i) n → mj_run (mj_ev (d + 1)) k252 Q (k252 32) [some (.ref 73), some (.int (nI (i + 1)))] [] (107, mj_upI I' 99 i (nI v), L, P) 0 0 := by
        rintro v rfl
        refine ih _ (e'.up rfl) (fun p hp => ?_) (fun p h1 h2 => ?_)
        · by_cases e : p = i
          · subst e
            exact upI_s
          · rw [upI_j e]
            exact z1 p (by omega)
        · rw [upI_j (by omega)]
          exact z2 p (by omega) h2
      have inr : ∀ q, inR (R ++ [m]) i q = (inR R i q || decide (m i = some q)) := fun q => by
        unfold inR
        rw [List.any_append]
        simp
      cases hm : m i with
      | none =>
        rw [hm] at w97
        have w97' : I' 97 i = nI 10 := w97
        refine q_3 rfl ?_
        refine q_5 rfl ?_
        first | refine q_31E rfl (by decide) hn' ?_ | refine q_31 rfl (by decide) ?_
        refine q_geN (by omega) (by omega) (fun hh => absurd hh (by omega)) (fun hh => ?_)
        refine q_5 rfl ?_
        refine q_33 rfl (by decide) (hP _ _ _ rfl) ?_
        refine q_3 rfl ?_
        refine q_20 rfl rfl ?_
        first | refine q_38E _ rfl (by decide) rfl (by show _ < 10; omega) (by decide) (w99) ?_ | refine q_38 _ rfl (by decide) rfl (by show _ < 10; omega) (by decide) ?_
        refine q_5 rfl ?_
        refine q_33 rfl (by decide) (hP _ _ _ rfl) ?_
        refine q_3 rfl ?_
        first | refine q_38E _ rfl (by decide) rfl (by show _ < 10; omega) (by decide) (w97') ?_ | refine q_38 _ rfl (by decide) rfl (by show _ < 10; omega) (by decide) ?_
        refine q_0 ?_
        refine q_neN (by omega) (by omega) (fun hh => absurd hh (by omega)) (fun hh => ?_)
        refine q_0 ?_
        refine q_23 ?_
        first | refine q_orN ?_ | refine q_11 rfl ?_
        refine q_42 _ rfl (by decide) rfl (by show _ < 10; omega) (by decide) ?_
        first | refine q_inc rfl rfl rfl ?_ | refine q_9 rfl rfl rfl ?_
        refine q_23 ?_
        exact fin _ (by rw [Nat.or_zero]; exact mask_congr (fun q _ => by rw [inr, hm]; simp))
      | some q =>
        rw [hm] at w97
        have w97' : I' 97 i = nI q := w97
        obtain ⟨hq, -, -⟩ := hg i hi q hm
        refine q_3 rfl ?_
        refine q_5 rfl ?_
        first | refine q_31E rfl (by decide) hn' ?_ | refine q_31 rfl (by decide) ?_
        refine q_geN (by omega) (by omega) (fun hh => absurd hh (by omega)) (fun hh => ?_)
        refine q_5 rfl ?_
        refine q_33 rfl (by decide) (hP _ _ _ rfl) ?_
        refine q_3 rfl ?_
        refine q_20 rfl rfl ?_
        first | refine q_38E _ rfl (by decide) rfl (by show _ < 10; omega) (by decide) (w99) ?_ | refine q_38 _ rfl (by decide) rfl (by show _ < 10; omega) (by decide) ?_
        refine q_5 rfl ?_
        refine q_33 rfl (by decide) (hP _ _ _ rfl) ?_
        refine q_3 rfl ?_
        first | refine q_38E _ rfl (by decide) rfl (by show _ < 10; omega) (by decide) (w97') ?_ | refine q_38 _ rfl (by decide) rfl (by show _ < 10; omega) (by decide) ?_
        refine q_0 ?_
        refine q_neN (by omega) (by omega) (fun hh => ?_) (fun hh => absurd hh (by omega))
        refine q_0 ?_
        refine q_5 rfl ?_
        refine q_33 rfl (by decide) (hP _ _ _ rfl) ?_
        refine q_3 rfl ?_
        first | refine q_38E _ rfl (by decide) rfl (by show _ < 10; omega) (by decide) (w97') ?_ | refine q_38 _ rfl (by decide) rfl (by show _ < 10; omega) (by decide) ?_
        first | refine q_shl1 (by omega) ?_ | refine q_11 rfl ?_
        first | refine q_orN ?_ | refine q_11 rfl ?_
        refine q_42 _ rfl (by decide) rfl (by show _ < 10; omega) (by decide) ?_
        first | refine q_inc rfl rfl rfl ?_ | refine q_9 rfl rfl rfl ?_
        refine q_23 ?_
        exact fin _ (by rw [mask_orb _ hq]; exact mask_congr (fun z _ => by rw [inr, hm]; congr 1; exact decide_eq_decide.mpr ⟨fun e => by rw [e], fun e => by cases e; rfl⟩))
  show mj_run (mj_ev (d + 1)) k252 Q (k252 0) [some (.ref 73), none] [] (107, I, L, P) 0 0
  cases hRn : R with
  | nil =>
    subst hRn
    have j50' : mj_upI I 73 50 (nI (0 + 1)) 73 50 = nI (0 + 1) := upI_s
    have h50' : I 73 50 = nI 0 := h50
    refine q_5 rfl ?_
    refine q_18 rfl ?_
    first | refine q_31E rfl (by decide) h50' ?_ | refine q_31E rfl (by decide) j50' ?_ | refine q_31 rfl (by decide) ?_
    refine q_0 ?_
    first | refine q_add ?_ | refine q_11 rfl ?_
    refine q_34 rfl (by decide) ?_
    refine q_5 rfl ?_
    first | refine q_31E rfl (by decide) h50' ?_ | refine q_31E rfl (by decide) j50' ?_ | refine q_31 rfl (by decide) ?_
    refine q_0 ?_
    refine q_neN (by omega) (by omega) (fun hh => absurd hh (by omega)) (fun hh => ?_)
    refine q_5 rfl ?_
    refine q_5 rfl ?_
    refine q_33 rfl (by decide) (hP _ _ _ rfl) ?_
    refine q_5 rfl ?_
    refine q_33 rfl (by decide) (hP _ _ _ rfl) ?_
    refine q_47 (mj_ev_mono _) [_, _] rfl rfl rfl (by decide) rfl rfl rfl ?_
    refine s_165 (N := 10) rfl rfl (by decide) (by decide) rfl rfl (by decide) (by decide) (fun I2 a1 a2 => ?_)
    refine q_0 ?_
    refine q_6 rfl rfl rfl ?_
    refine L32 I2 (fun c j q => ?_) (by rw [a1 73 (by decide)]; exact upI_s) (fun p hp => ?_) 0 (by omega) I2 Eqf.rf (fun p hp => absurd hp (by omega)) (fun p _ hp => by rw [a1 99 (by decide)]; exact h99 p hp)
    · simp only [Bool.or_eq_false_iff] at q
      rw [a1 c (fun e => by subst e; exact absurd q.1 (by decide))]
      refine (Eqf.rf (F := fun c j => c == 73 && j == 50)).up (by rfl) c j q.2
    · rw [a2 p (by omega)]
      exact hW p hp
  | cons m0 R0 =>
    have hlen : R.length = R0.length + 1 := by rw [hRn]; rfl
    rw [hlen] at h50 hl j50
    refine q_5 rfl ?_
    refine q_18 rfl ?_
    first | refine q_31E rfl (by decide) h50 ?_ | refine q_31E rfl (by decide) j50 ?_ | refine q_31 rfl (by decide) ?_
    refine q_0 ?_
    first | refine q_add ?_ | refine q_11 rfl ?_
    refine q_34 rfl (by decide) ?_
    refine q_5 rfl ?_
    first | refine q_31E rfl (by decide) h50 ?_ | refine q_31E rfl (by decide) j50 ?_ | refine q_31 rfl (by decide) ?_
    refine q_0 ?_
    refine q_neN (by omega) (by omega) (fun hh => ?_) (fun hh => absurd hh (by omega))
    refine q_0 ?_
    refine q_6 rfl rfl rfl ?_
    rw [hRn] at L32
    refine L32 _ (Eqf.rf.up rfl) (by rw [List.length_append, ← hRn, hlen]; exact upI_s) (fun p hp => ?_) 0 (by omega) _ Eqf.rf (fun p hp => absurd hp (by omega)) (fun p _ hp => by rw [← hRn]; exact h99 p hp)
    have := h98 p hp
    rw [hRn] at this
    exact this
theorem s_253 {f : Nat} (hP : PS t P) (hn : I 73 1 = nI n) (hn10 : n ≤ 10) (ha : a < n) (hf : f ≤ 11) (hW : WH n S m I) (hw31 : ∀ q, q < n → ∀ r, m q = some r → r < n) (hSf : ∀ q, q < n → S q = true → fr q = true) (hA : AL al n I) (k : Q (.inl (some (.int (wI (fnd n f (fun q => decide (a < q) && S q && okA al a q)))))) (107, I, L, P)) : mj_ev (d + 1) 253 [.ref 73, .int (nI a), .int (nI f), .int (nI (maskF fr n))] (107, I, L, P) Q := by
  refine ⟨rfl, ?_⟩
  have L3 : ∀ q, q ≤ n → f ≤ q → fnd n q (fun q => decide (a < q) && S q && okA al a q) = fnd n f (fun q => decide (a < q) && S q && okA al a q) → mj_run (mj_ev d) k253 Q (k253 3) [some (.ref 73), some (.int (nI a)), some (.int (nI f)), some (.int (nI (maskF fr n))), some (.int (nI q))] [] (107, I, L, P) 0 0 := by
    refine loop_up ?_ (fun q hq ih => ?_)
    · intro _ hz
      rw [fnd_end (Nat.le_refl _)] at hz
      refine q_3 rfl ?_
      refine q_5 rfl ?_
      first | refine q_31E rfl (by decide) hn ?_ | refine q_31 rfl (by decide) ?_
      refine q_geN (by omega) (by omega) (fun hh => ?_) (fun hh => absurd hh (by omega))
      refine q_3 rfl ?_
      refine q_5 rfl ?_
      first | refine q_31E rfl (by decide) hn ?_ | refine q_31 rfl (by decide) ?_
      refine q_geN (by omega) (by omega) (fun hh => ?_) (fun hh => absurd hh (by omega))
      refine q_0 ?_
      refine q_26 ?_
      exact kQ k (by rw [← hz]; rfl)
    · intro hfq hz
      have wq := hW q hq
      have nx : (decide (a < q) && S q && okA al a q) = false → mj_run (mj_ev d) k253 Q (k253 3) [some (.ref 73), some (.int (nI a)), some (.int (nI f)), some (.int (nI (maskF fr n))), some (.int (nI (q + 1)))] [] (107, I, L, P) 0 0 := fun z => by
        rw [fnd_no hq z] at hz
        exact ih (by omega) hz
      by_cases haq : a < q
      · have a93 : I 93 (10 * a + q) = al a q := by rw [hA a q ha hq, if_neg (by omega)]
        cases hfr : fr q with
        | false =>
          have hs : S q = false := by
            cases e : S q with
            | false => rfl
            | true => rw [hSf q hq e] at hfr; cases hfr
          refine q_3 rfl ?_
          refine q_5 rfl ?_
          first | refine q_31E rfl (by decide) hn ?_ | refine q_31 rfl (by decide) ?_
          refine q_geN (by omega) (by omega) (fun hh => absurd hh (by omega)) (fun hh => ?_)
          refine q_3 rfl ?_
          refine q_3 rfl ?_
          refine q_leN (by omega) (by omega) (fun hh => absurd hh (by omega)) (fun hh => ?_)
          refine q_3 rfl ?_
          refine q_3 rfl ?_
          first | refine q_bitT (by assumption) (by omega) (by omega) ?_ | refine q_bitF (by assumption) (by omega) (by omega) ?_ | refine q_bit (by omega) (by omega) ?_ | refine q_bitM (by first | omega | assumption) (by omega) ?_
          refine q_0 ?_
          refine q_neN (by omega) (by omega) (fun hh => ?_) (fun hh => absurd hh (by omega))
          first | refine q_inc rfl rfl rfl ?_ | refine q_9 rfl rfl rfl ?_
          refine q_23 ?_
          exact nx (by rw [hs]; simp)
        | true =>
          cases hs : S q with
          | false =>
            have wq' : I 97 q = wI (m q) := by
              rw [wq]
              unfold wth
              rw [hs]
              rfl
            have wne : ¬ wI (m q) = -(nI 1) := by
              cases e : m q with
              | none => exact mI_ne (by omega)
              | some r => exact mI_ne (by have := hw31 q hq r e; omega)
            refine q_3 rfl ?_
            refine q_5 rfl ?_
            first | refine q_31E rfl (by decide) hn ?_ | refine q_31 rfl (by decide) ?_
            refine q_geN (by omega) (by omega) (fun hh => absurd hh (by omega)) (fun hh => ?_)
            refine q_3 rfl ?_
            refine q_3 rfl ?_
            refine q_leN (by omega) (by omega) (fun hh => absurd hh (by omega)) (fun hh => ?_)
            refine q_3 rfl ?_
            refine q_3 rfl ?_
            first | refine q_bitT (by assumption) (by omega) (by omega) ?_ | refine q_bitF (by assumption) (by omega) (by omega) ?_ | refine q_bit (by omega) (by omega) ?_ | refine q_bitM (by first | omega | assumption) (by omega) ?_
            refine q_0 ?_
            refine q_neN (by omega) (by omega) (fun hh => absurd hh (by omega)) (fun hh => ?_)
            refine q_5 rfl ?_
            refine q_33 rfl (by decide) (hP _ _ _ rfl) ?_
            refine q_3 rfl ?_
            first | refine q_38E _ rfl (by decide) rfl (by show _ < 10; omega) (by decide) (wq') ?_ | refine q_38 _ rfl (by decide) rfl (by show _ < 10; omega) (by decide) ?_
            refine q_1 ?_
            refine q_neI (fun _ => ?_) (fun z => absurd wne z)
            first | refine q_inc rfl rfl rfl ?_ | refine q_9 rfl rfl rfl ?_
            refine q_23 ?_
            exact nx (by rw [hs]; simp)
          | true =>
            have wq' : I 97 q = -(nI 1) := by
              rw [wq]
              unfold wth
              rw [hs]
              rfl
            by_cases hok : 0 < al a q
            · rw [fnd_yes hq (by rw [hs, decide_eq_true haq, show okA al a q = true from decide_eq_true hok]; rfl)] at hz
              refine q_3 rfl ?_
              refine q_5 rfl ?_
              first | refine q_31E rfl (by decide) hn ?_ | refine q_31 rfl (by decide) ?_
              refine q_geN (by omega) (by omega) (fun hh => absurd hh (by omega)) (fun hh => ?_)
              refine q_3 rfl ?_
              refine q_3 rfl ?_
              refine q_leN (by omega) (by omega) (fun hh => absurd hh (by omega)) (fun hh => ?_)
              refine q_3 rfl ?_
              refine q_3 rfl ?_
              first | refine q_bitT (by assumption) (by omega) (by omega) ?_ | refine q_bitF (by assumption) (by omega) (by omega) ?_ | refine q_bit (by omega) (by omega) ?_ | refine q_bitM (by first | omega | assumption) (by omega) ?_
              refine q_0 ?_
              refine q_neN (by omega) (by omega) (fun hh => absurd hh (by omega)) (fun hh => ?_)
              refine q_5 rfl ?_
              refine q_33 rfl (by decide) (hP _ _ _ rfl) ?_
              refine q_3 rfl ?_
              first | refine q_38E _ rfl (by decide) rfl (by show _ < 10; omega) (by decide) (wq') ?_ | refine q_38 _ rfl (by decide) rfl (by show _ < 10; omega) (by decide) ?_
              refine q_1 ?_
              refine q_neI (fun z => absurd rfl z) (fun _ => ?_)
              refine q_5 rfl ?_
              refine q_33 rfl (by decide) (hP _ _ _ rfl) ?_
              refine q_0 ?_
              refine q_3 rfl ?_
              first | refine q_mul ?_ | refine q_11 rfl ?_
              refine q_3 rfl ?_
              first | refine q_add ?_ | refine q_11 rfl ?_
              first | refine q_38E _ rfl (by decide) rfl (by show _ < 100; omega) (by decide) (a93) ?_ | refine q_38 _ rfl (by decide) rfl (by show _ < 100; omega) (by decide) ?_
              refine q_gtI0 (fun _ => ?_) (fun z => absurd hok z)
              refine q_3 rfl ?_
              refine q_5 rfl ?_
              first | refine q_31E rfl (by decide) hn ?_ | refine q_31 rfl (by decide) ?_
              refine q_geN (by omega) (by omega) (fun hh => absurd hh (by omega)) (fun hh => ?_)
              refine q_3 rfl ?_
              refine q_23 ?_
              refine q_26 ?_
              exact kQ k (by rw [← hz]; rfl)
            · refine q_3 rfl ?_
              refine q_5 rfl ?_
              first | refine q_31E rfl (by decide) hn ?_ | refine q_31 rfl (by decide) ?_
              refine q_geN (by omega) (by omega) (fun hh => absurd hh (by omega)) (fun hh => ?_)
              refine q_3 rfl ?_
              refine q_3 rfl ?_
              refine q_leN (by omega) (by omega) (fun hh => absurd hh (by omega)) (fun hh => ?_)
              refine q_3 rfl ?_
              refine q_3 rfl ?_
              first | refine q_bitT (by assumption) (by omega) (by omega) ?_ | refine q_bitF (by assumption) (by omega) (by omega) ?_ | refine q_bit (by omega) (by omega) ?_ | refine q_bitM (by first | omega | assumption) (by omega) ?_
              refine q_0 ?_
              refine q_neN (by omega) (by omega) (fun hh => absurd hh (by omega)) (fun hh => ?_)
              refine q_5 rfl ?_
              refine q_33 rfl (by decide) (hP _ _ _ rfl) ?_
              refine q_3 rfl ?_
              first | refine q_38E _ rfl (by decide) rfl (by show _ < 10; omega) (by decide) (wq') ?_ | refine q_38 _ rfl (by decide) rfl (by show _ < 10; omega) (by decide) ?_
              refine q_1 ?_
              refine q_neI (fun z => absurd rfl z) (fun _ => ?_)
              refine q_5 rfl ?_
              refine q_33 rfl (by decide) (hP _ _ _ rfl) ?_
              refine q_0 ?_
              refine q_3 rfl ?_
              first | refine q_mul ?_ | refine q_11 rfl ?_
              refine q_3 rfl ?_
              first | refine q_add ?_ | refine q_11 rfl ?_
              first | refine q_38E _ rfl (by decide) rfl (by show _ < 100; omega) (by decide) (a93) ?_ | refine q_38 _ rfl (by decide) rfl (by show _ < 100; omega) (by decide) ?_
              refine q_gtI0 (fun z => absurd z hok) (fun _ => ?_)
              first | refine q_inc rfl rfl rfl ?_ | refine q_9 rfl rfl rfl ?_
              refine q_23 ?_
              exact nx (by unfold okA; simp [hok])
      · refine q_3 rfl ?_
        refine q_5 rfl ?_
        first | refine q_31E rfl (by decide) hn ?_ | refine q_31 rfl (by decide) ?_
        refine q_geN (by omega) (by omega) (fun hh => absurd hh (by omega)) (fun hh => ?_)
        refine q_3 rfl ?_
        refine q_3 rfl ?_
        refine q_leN (by omega) (by omega) (fun hh => ?_) (fun hh => absurd hh (by omega))
        first | refine q_inc rfl rfl rfl ?_ | refine q_9 rfl rfl rfl ?_
        refine q_23 ?_
        exact nx (by rw [decide_eq_false haq]; rfl)
  show mj_run (mj_ev d) k253 Q (k253 0) [some (.ref 73), some (.int (nI a)), some (.int (nI f)), some (.int (nI (maskF fr n))), none] [] (107, I, L, P) 0 0
  rcases Nat.lt_or_ge n f with hnf | hnf
  · refine q_3 rfl ?_
    refine q_6 rfl rfl rfl ?_
    refine q_3 rfl ?_
    refine q_5 rfl ?_
    first | refine q_31E rfl (by decide) hn ?_ | refine q_31 rfl (by decide) ?_
    refine q_geN (by omega) (by omega) (fun hh => ?_) (fun hh => absurd hh (by omega))
    refine q_3 rfl ?_
    refine q_5 rfl ?_
    first | refine q_31E rfl (by decide) hn ?_ | refine q_31 rfl (by decide) ?_
    refine q_geN (by omega) (by omega) (fun hh => ?_) (fun hh => absurd hh (by omega))
    refine q_0 ?_
    refine q_26 ?_
    exact kQ k (by rw [fnd_end (by omega)]; rfl)
  · refine q_3 rfl ?_
    refine q_6 rfl rfl rfl ?_
    exact L3 f hnf (Nat.le_refl _) rfl
end M
