/-! the class: ways at rest -/
def RC (n : Nat) (R : List MM) (I : mj_I) : Prop := I 60 2 = nI R.length ∧ (∀ p, p < n → I 62 p = mI ((R.head?.getD (fun _ => none)) p)) ∧ ∀ p, p < n → I 63 p = nI (maskF (inR R p) n)
theorem inR_app {R : List MM} {m : MM} {i : Nat} : ∀ q, inR (R ++ [m]) i q = (inR R i q || decide (m i = some q)) := fun q => by
  unfold inR
  rw [List.any_append]
  simp
section C
variable {I : mj_I} {L : mj_L} {P : mj_P} {Q : mj_Q} {d n r t a b : Nat} {A : AS} {w : WT} {c h : Nat → Nat} {m : MM} {al : Nat → Nat → Int32} {fr S : Nat → Bool}
theorem c_98 {o : Option Nat} (hP : PS t P) (hT : TI w c h I) (hn : I 3 0 = nI w.n) (hn10 : w.n ≤ 10) (ha : a < w.n) (ho : ∀ q, o = some q → q < w.n ∧ q ≠ a) (hSa : S a = true) (hW : ∀ p, p < w.n → fr p = true → S p = false → I 64 p = nI (maskF (rtm w c h p (m p)) w.n)) (k : ∀ I', I' = mj_upI (mj_upI I 61 a (mI o)) 64 a (nI (maskF (rtm w c h a o) w.n)) → Q (.inl (some (.int (nI (if cm w c h fr S m a o then 1 else 0))))) (107, I', L, P)) : mj_ev (d + 2) 98 [.ref 60, .int (nI a), .int (mI o), .int (nI (maskF (fun q => fr q && !S q) w.n))] (107, I, L, P) Q := by
  refine ⟨rfl, ?_⟩
  have w64 : mj_upI (mj_upI I 61 a (mI o)) 64 a (nI (maskF (rtm w c h a o) w.n)) 64 a = nI (maskF (rtm w c h a o) w.n) := upI_s
  have hn2 : mj_upI (mj_upI I 61 a (mI o)) 64 a (nI (maskF (rtm w c h a o) w.n)) 3 0 = nI w.n := hn
  have L35 : ∀ i, i ≤ w.n → (∀ q, q < i → ((fr q && !S q) && rtm w c h a o q && rtm w c h q (m q) a) = false) → mj_run (mj_ev (d + 1)) k98 Q (k98 35) [some (.ref 60), some (.int (nI a)), some (.int (mI o)), some (.int (nI (maskF (fun q => fr q && !S q) w.n))), some (.int (nI (maskF (fun q => rtm w c h a o q && (fr q && !S q)) w.n))), some (.int (nI i))] [] (107, mj_upI (mj_upI I 61 a (mI o)) 64 a (nI (maskF (rtm w c h a o) w.n)), L, P) 0 0 := by
    refine loop_up ?_ (fun i hi ih => ?_)
    · intro hz
      have hcm : cm w c h fr S m a o = true := by
        unfold cm
        rw [Bool.not_eq_true', ← Bool.not_eq_true, anyB_iff]
        rintro ⟨q, hq, h2⟩
        rw [hz q hq] at h2
        cases h2
      have k' := k _ rfl
      rw [hcm, if_pos rfl] at k'
      refine q_3 rfl ?_
      refine q_5 rfl ?_
      refine q_33 rfl (by decide) (hP _ _ _ rfl) ?_
      first | refine q_31E rfl (by decide) hn2 ?_ | refine q_31 rfl (by decide) ?_
      refine q_geN (by omega) (by omega) (fun hh => ?_) (fun hh => absurd hh (by omega))
      refine q_0 ?_
      refine q_27 (by first | exact Or.inl rfl | exact Or.inr rfl | assumption | (split <;> first | exact Or.inl rfl | exact Or.inr rfl)) ?_
      exact k'
    · intro hz
      cases hb : (rtm w c h a o i && (fr i && !S i)) with
      | false =>
        refine q_3 rfl ?_
        refine q_5 rfl ?_
        refine q_33 rfl (by decide) (hP _ _ _ rfl) ?_
        first | refine q_31E rfl (by decide) hn2 ?_ | refine q_31 rfl (by decide) ?_
        refine q_geN (by omega) (by omega) (fun hh => absurd hh (by omega)) (fun hh => ?_)
        refine q_3 rfl ?_
        refine q_3 rfl ?_
        first | refine q_bitT (by assumption) (by omega) (by omega) ?_ | refine q_bitF (by assumption) (by omega) (by omega) ?_ | refine q_bit (by omega) (by omega) ?_ | refine q_bitM (by first | omega | assumption) (by omega) ?_
        first | refine q_eqN0 (by omega) (fun hh => ?_) (fun hh => absurd hh (by omega)) | refine q_eqI0 (fun hh => ?_) (fun hh => absurd (by omega) hh)
        first | refine q_inc rfl rfl rfl ?_ | refine q_9 rfl rfl rfl ?_
        refine q_23 ?_
        refine ih (fun q hq => ?_)
        by_cases e : q = i
        · subst e
          rw [Bool.and_comm (fr q && !S q) (rtm w c h a o q), hb]
          rfl
        · exact hz q (by omega)
      | true =>
        have hb' := hb
        simp only [Bool.and_eq_true, Bool.not_eq_true'] at hb'
        obtain ⟨r1, f1, s1⟩ := hb'
        have hia : i ≠ a := fun e => by rw [e, hSa] at s1; cases s1
        have wi : mj_upI (mj_upI I 61 a (mI o)) 64 a (nI (maskF (rtm w c h a o) w.n)) 64 i = nI (maskF (rtm w c h i (m i)) w.n) := by
          rw [upI_j hia]
          exact hW i hi f1 s1
        cases hr : rtm w c h i (m i) a with
        | false =>
          refine q_3 rfl ?_
          refine q_5 rfl ?_
          refine q_33 rfl (by decide) (hP _ _ _ rfl) ?_
          first | refine q_31E rfl (by decide) hn2 ?_ | refine q_31 rfl (by decide) ?_
          refine q_geN (by omega) (by omega) (fun hh => absurd hh (by omega)) (fun hh => ?_)
          refine q_3 rfl ?_
          refine q_3 rfl ?_
          first | refine q_bitT (by assumption) (by omega) (by omega) ?_ | refine q_bitF (by assumption) (by omega) (by omega) ?_ | refine q_bit (by omega) (by omega) ?_ | refine q_bitM (by first | omega | assumption) (by omega) ?_
          first | refine q_eqN0 (by omega) (fun hh => absurd hh (by omega)) (fun hh => ?_) | refine q_eqI0 (fun hh => absurd hh (by omega)) (fun hh => ?_)
          refine q_5 rfl ?_
          refine q_33 rfl (by decide) (hP _ _ _ rfl) ?_
          refine q_3 rfl ?_
          first | refine q_38E _ rfl (by decide) rfl (by show _ < 10; omega) (by decide) (wi) ?_ | refine q_38 _ rfl (by decide) rfl (by show _ < 10; omega) (by decide) ?_
          refine q_3 rfl ?_
          first | refine q_bitT (by assumption) (by omega) (by omega) ?_ | refine q_bitF (by assumption) (by omega) (by omega) ?_ | refine q_bit (by omega) (by omega) ?_ | refine q_bitM (by first | omega | assumption) (by omega) ?_
          first | refine q_eqN0 (by omega) (fun hh => ?_) (fun hh => absurd hh (by omega)) | refine q_eqI0 (fun hh => ?_) (fun hh => absurd (by omega) hh)
          first | refine q_inc rfl rfl rfl ?_ | refine q_9 rfl rfl rfl ?_
          refine q_23 ?_
          refine ih (fun q hq => ?_)
          by_cases e : q = i
          · subst e
            rw [hr]
            simp
          · exact hz q (by omega)
        | true =>
          have hcm : cm w c h fr S m a o = false := by
            unfold cm
            rw [Bool.not_eq_false', anyB_iff]
            exact ⟨i, hi, by rw [f1, s1, r1, hr]; rfl⟩
          have k' := k _ rfl
          rw [hcm, if_neg (by decide)] at k'
          refine q_3 rfl ?_
          refine q_5 rfl ?_
          refine q_33 rfl (by decide) (hP _ _ _ rfl) ?_
          first | refine q_31E rfl (by decide) hn2 ?_ | refine q_31 rfl (by decide) ?_
          refine q_geN (by omega) (by omega) (fun hh => absurd hh (by omega)) (fun hh => ?_)
          refine q_3 rfl ?_
          refine q_3 rfl ?_
          first | refine q_bitT (by assumption) (by omega) (by omega) ?_ | refine q_bitF (by assumption) (by omega) (by omega) ?_ | refine q_bit (by omega) (by omega) ?_ | refine q_bitM (by first | omega | assumption) (by omega) ?_
          first | refine q_eqN0 (by omega) (fun hh => absurd hh (by omega)) (fun hh => ?_) | refine q_eqI0 (fun hh => absurd hh (by omega)) (fun hh => ?_)
          refine q_5 rfl ?_
          refine q_33 rfl (by decide) (hP _ _ _ rfl) ?_
          refine q_3 rfl ?_
          first | refine q_38E _ rfl (by decide) rfl (by show _ < 10; omega) (by decide) (wi) ?_ | refine q_38 _ rfl (by decide) rfl (by show _ < 10; omega) (by decide) ?_
          refine q_3 rfl ?_
          first | refine q_bitT (by assumption) (by omega) (by omega) ?_ | refine q_bitF (by assumption) (by omega) (by omega) ?_ | refine q_bit (by omega) (by omega) ?_ | refine q_bitM (by first | omega | assumption) (by omega) ?_
          first | refine q_eqN0 (by omega) (fun hh => absurd hh (by omega)) (fun hh => ?_) | refine q_eqI0 (fun hh => absurd hh (by omega)) (fun hh => ?_)
          refine q_0 ?_
          refine q_27 (by first | exact Or.inl rfl | exact Or.inr rfl | assumption | (split <;> first | exact Or.inl rfl | exact Or.inr rfl)) ?_
          exact k'
  show mj_run (mj_ev (d + 1)) k98 Q (k98 0) [some (.ref 60), some (.int (nI a)), some (.int (mI o)), some (.int (nI (maskF (fun q => fr q && !S q) w.n))), none, none] [] (107, I, L, P) 0 0
  refine q_5 rfl ?_
  refine q_33 rfl (by decide) (hP _ _ _ rfl) ?_
  refine q_3 rfl ?_
  refine q_3 rfl ?_
  refine q_42 _ rfl (by decide) rfl (by show _ < 10; omega) (by decide) ?_
  refine q_5 rfl ?_
  refine q_33 rfl (by decide) (hP _ _ _ rfl) ?_
  refine q_3 rfl ?_
  refine q_5 rfl ?_
  refine q_33 rfl (by decide) (hP _ _ _ rfl) ?_
  refine q_3 rfl ?_
  refine q_3 rfl ?_
  refine q_47 (mj_ev_mono _) [_, _] rfl rfl rfl (by decide) rfl rfl rfl ?_
  refine c_72 hP (show TI w c h (mj_upI I 61 a (mI o)) from ⟨fun p hp => hT.1 p hp, fun x y hx hy hxy => hT.2 x y hx hy hxy⟩) hn hn10 ha ho ?_
  refine q_42 _ rfl (by decide) rfl (by show _ < 10; omega) (by decide) ?_
  refine q_5 rfl ?_
  refine q_33 rfl (by decide) (hP _ _ _ rfl) ?_
  refine q_3 rfl ?_
  first | refine q_38E _ rfl (by decide) rfl (by show _ < 10; omega) (by decide) (w64) ?_ | refine q_38 _ rfl (by decide) rfl (by show _ < 10; omega) (by decide) ?_
  refine q_3 rfl ?_
  first | refine q_andN ?_ | refine q_11 rfl ?_
  rw [mask_and]
  refine q_6 rfl rfl rfl ?_
  refine q_0 ?_
  refine q_6 rfl rfl rfl ?_
  exact L35 0 (by omega) (fun q hq => absurd hq (by omega))
theorem c_99 {R : List MM} (hP : PS t P) (hn : I 3 0 = nI n) (hn10 : n ≤ 10) (hg : gm n m) (hW : ∀ q, q < n → I 61 q = mI (m q)) (hR : RC n R I) (hl : R.length < 2 ^ 31) (k : ∀ I', Eqf (frm [62, 63] [(60, 2)]) I I' → RC n (R ++ [m]) I' → Q (.inl none) (107, I', L, P)) : mj_ev (d + 1) 99 [.ref 60] (107, I, L, P) Q := by
  refine ⟨rfl, ?_⟩
  obtain ⟨h2, h62, h63⟩ := hR
  have L2 : ∀ i, i ≤ n → ∀ I' x2, Eqf (frm [62, 63] []) I I' → (∀ p, p < i → I' 62 p = mI (((R ++ [m]).head?.getD (fun _ => none)) p) ∧ I' 63 p = nI (maskF (inR (R ++ [m]) p) n)) → (∀ p, i ≤ p → p < n → I' 62 p = I 62 p ∧ I' 63 p = I 63 p) → mj_run (mj_ev d) k99 Q (k99 2) [some (.ref 60), some (.int (nI i)), x2] [] (107, I', L, P) 0 0 := by
    refine loop_up ?_ (fun i hi ih => ?_)
    · intro I' x2 e' z1 z2
      have hn' : I' 3 0 = nI n := (e' 3 0 rfl).trans hn
      have h2' : I' 60 2 = nI R.length := (e' 60 2 rfl).trans h2
      refine q_3 rfl ?_
      refine q_5 rfl ?_
      refine q_33 rfl (by decide) (hP _ _ _ rfl) ?_
      first | refine q_31E rfl (by decide) hn' ?_ | refine q_31 rfl (by decide) ?_
      refine q_geN (by omega) (by omega) (fun hh => ?_) (fun hh => absurd hh (by omega))
      refine q_5 rfl ?_
      refine q_18 rfl ?_
      first | refine q_31E rfl (by decide) h2' ?_ | refine q_31 rfl (by decide) ?_
      refine q_0 ?_
      first | refine q_add ?_ | refine q_11 rfl ?_
      refine q_34 rfl (by decide) ?_
      refine q_25 ?_
      refine k _ ((e'.to rfl rfl).up rfl) ⟨?_, fun p hp => (z1 p hp).1, fun p hp => (z1 p hp).2⟩
      rw [List.length_append]
      exact upI_s
    · intro I' x2 e' z1 z2
      have hn' : I' 3 0 = nI n := (e' 3 0 rfl).trans hn
      have h2' : I' 60 2 = nI R.length := (e' 60 2 rfl).trans h2
      have w61 : I' 61 i = mI (m i) := (e' 61 i rfl).trans (hW i hi)
      have w62 : I' 62 i = mI ((R.head?.getD (fun _ => none)) i) := (z2 i (Nat.le_refl _) hi).1.trans (h62 i hi)
      have w63 : I' 63 i = nI (maskF (inR R i) n) := (z2 i (Nat.le_refl _) hi).2.trans (h63 i hi)
      have fin : ∀ I2, Eqf (frm [62, 63] []) I' I2 → I2 62 i = mI (((R ++ [m]).head?.getD (fun _ => none)) i) → I2 63 i = nI (maskF (inR (R ++ [m]) i) n) → (∀ p, p ≠ i → I2 62 p = I' 62 p ∧ I2 63 p = I' 63 p) → ∀ y, mj_run (mj_ev d) k99 Q (k99 2) [some (.ref 60), some (.int (nI (i + 1))), y] [] (107, I2, L, P) 0 0 := by
        intro I2 e2 v1 v2 v3 y
        refine ih I2 y (e'.tr e2) (fun p hp => ?_) (fun p h1 h2 => ?_)
        · by_cases e : p = i
          · subst e
            exact ⟨v1, v2⟩
          · rw [(v3 p e).1, (v3 p e).2]
            exact z1 p (by omega)
        · rw [(v3 p (by omega)).1, (v3 p (by omega)).2]
          exact z2 p (by omega) h2
      have e0 : m i = none → maskF (inR (R ++ [m]) i) n = maskF (inR R i) n := fun hm => mask_congr (fun q _ => by rw [inR_app, hm]; simp)
      have e1 : ∀ q, m i = some q → q < n → maskF (inR R i) n ||| 2 ^ q = maskF (inR (R ++ [m]) i) n := fun q hm hq => by
        rw [mask_orb _ hq]
        exact mask_congr (fun z _ => by rw [inR_app, hm]; congr 1; exact decide_eq_decide.mpr ⟨fun e => by rw [e], fun e => by cases e; rfl⟩)
      cases hRn : R with
      | nil =>
        rw [hRn] at h2' w63 w62 fin e0 e1
        have h2'' : I' 60 2 = nI 0 := h2'
        cases hm : m i with
        | none =>
          rw [hm] at w61
          refine q_3 rfl ?_
          refine q_5 rfl ?_
          refine q_33 rfl (by decide) (hP _ _ _ rfl) ?_
          first | refine q_31E rfl (by decide) hn' ?_ | refine q_31 rfl (by decide) ?_
          refine q_geN (by omega) (by omega) (fun hh => absurd hh (by omega)) (fun hh => ?_)
          refine q_5 rfl ?_
          refine q_33 rfl (by decide) (hP _ _ _ rfl) ?_
          refine q_3 rfl ?_
          first | refine q_38E _ rfl (by decide) rfl (by show _ < 10; omega) (by decide) (w61) ?_ | refine q_38 _ rfl (by decide) rfl (by show _ < 10; omega) (by decide) ?_
          refine q_6 rfl rfl rfl ?_
          refine q_5 rfl ?_
          first | refine q_31E rfl (by decide) h2'' ?_ | refine q_31 rfl (by decide) ?_
          first | refine q_neN0 (by omega) (fun hh => absurd hh (by omega)) (fun hh => ?_) | refine q_neI0 (fun hh => absurd hh (by omega)) (fun hh => ?_)
          refine q_5 rfl ?_
          refine q_33 rfl (by decide) (hP _ _ _ rfl) ?_
          refine q_3 rfl ?_
          refine q_3 rfl ?_
          refine q_42 _ rfl (by decide) rfl (by show _ < 10; omega) (by decide) ?_
          refine q_3 rfl ?_
          refine q_1 ?_
          refine q_eqI (fun _ => ?_) (fun z => absurd rfl z)
          first | refine q_inc rfl rfl rfl ?_ | refine q_9 rfl rfl rfl ?_
          refine q_23 ?_
          exact fin _ (Eqf.rf.up rfl) (by rw [upI_s]; show _ = mI (m i); rw [hm]) (by rw [upI_c (by decide), e0 hm]; exact w63) (fun p hp => ⟨upI_j hp, rfl⟩) _
        | some q =>
          rw [hm] at w61
          have w61' : I' 61 i = nI q := w61
          have hq := (hg i hi q hm).1
          have w63' : mj_upI I' 62 i (nI q) 63 i = nI (maskF (inR [] i) n) := w63
          refine q_3 rfl ?_
          refine q_5 rfl ?_
          refine q_33 rfl (by decide) (hP _ _ _ rfl) ?_
          first | refine q_31E rfl (by decide) hn' ?_ | refine q_31 rfl (by decide) ?_
          refine q_geN (by omega) (by omega) (fun hh => absurd hh (by omega)) (fun hh => ?_)
          refine q_5 rfl ?_
          refine q_33 rfl (by decide) (hP _ _ _ rfl) ?_
          refine q_3 rfl ?_
          first | refine q_38E _ rfl (by decide) rfl (by show _ < 10; omega) (by decide) (w61') ?_ | refine q_38 _ rfl (by decide) rfl (by show _ < 10; omega) (by decide) ?_
          refine q_6 rfl rfl rfl ?_
          refine q_5 rfl ?_
          first | refine q_31E rfl (by decide) h2'' ?_ | refine q_31 rfl (by decide) ?_
          first | refine q_neN0 (by omega) (fun hh => absurd hh (by omega)) (fun hh => ?_) | refine q_neI0 (fun hh => absurd hh (by omega)) (fun hh => ?_)
          refine q_5 rfl ?_
          refine q_33 rfl (by decide) (hP _ _ _ rfl) ?_
          refine q_3 rfl ?_
          refine q_3 rfl ?_
          refine q_42 _ rfl (by decide) rfl (by show _ < 10; omega) (by decide) ?_
          refine q_3 rfl ?_
          refine q_1 ?_
          refine q_eqI (fun z => absurd z (mI_ne (by omega))) (fun _ => ?_)
          refine q_5 rfl ?_
          refine q_33 rfl (by decide) (hP _ _ _ rfl) ?_
          refine q_3 rfl ?_
          refine q_20 rfl rfl ?_
          first | refine q_38E _ rfl (by decide) rfl (by show _ < 10; omega) (by decide) (w63') ?_ | refine q_38 _ rfl (by decide) rfl (by show _ < 10; omega) (by decide) ?_
          refine q_0 ?_
          refine q_3 rfl ?_
          first | refine q_shl1 (by omega) ?_ | refine q_11 rfl ?_
          first | refine q_orN ?_ | refine q_11 rfl ?_
          refine q_42 _ rfl (by decide) rfl (by show _ < 10; omega) (by decide) ?_
          first | refine q_inc rfl rfl rfl ?_ | refine q_9 rfl rfl rfl ?_
          refine q_23 ?_
          exact fin _ ((Eqf.rf.up rfl).up rfl) (by rw [upI_c (by decide), upI_s]; show _ = mI (m i); rw [hm]; rfl) (by rw [upI_s, e1 q hm hq]) (fun p hp => ⟨by rw [upI_c (by decide), upI_j hp], by rw [upI_j hp]; rfl⟩) _
      | cons m0 R0 =>
        rw [hRn] at h2' w63 w62 fin e0 e1 hl
        have h2'' : I' 60 2 = nI (R0.length + 1) := h2'
        have hl' : R0.length + 1 < 2 ^ 31 := hl
        cases hm : m i with
        | none =>
          rw [hm] at w61
          refine q_3 rfl ?_
          refine q_5 rfl ?_
          refine q_33 rfl (by decide) (hP _ _ _ rfl) ?_
          first | refine q_31E rfl (by decide) hn' ?_ | refine q_31 rfl (by decide) ?_
          refine q_geN (by omega) (by omega) (fun hh => absurd hh (by omega)) (fun hh => ?_)
          refine q_5 rfl ?_
          refine q_33 rfl (by decide) (hP _ _ _ rfl) ?_
          refine q_3 rfl ?_
          first | refine q_38E _ rfl (by decide) rfl (by show _ < 10; omega) (by decide) (w61) ?_ | refine q_38 _ rfl (by decide) rfl (by show _ < 10; omega) (by decide) ?_
          refine q_6 rfl rfl rfl ?_
          refine q_5 rfl ?_
          first | refine q_31E rfl (by decide) h2'' ?_ | refine q_31 rfl (by decide) ?_
          first | refine q_neN0 (by omega) (fun hh => ?_) (fun hh => absurd hh (by omega)) | refine q_neI0 (fun hh => ?_) (fun hh => absurd (by omega) hh)
          refine q_3 rfl ?_
          refine q_1 ?_
          refine q_eqI (fun _ => ?_) (fun z => absurd rfl z)
          first | refine q_inc rfl rfl rfl ?_ | refine q_9 rfl rfl rfl ?_
          refine q_23 ?_
          exact fin _ Eqf.rf w62 (by rw [e0 hm]; exact w63) (fun p hp => ⟨rfl, rfl⟩) _
        | some q =>
          rw [hm] at w61
          have w61' : I' 61 i = nI q := w61
          have hq := (hg i hi q hm).1
          refine q_3 rfl ?_
          refine q_5 rfl ?_
          refine q_33 rfl (by decide) (hP _ _ _ rfl) ?_
          first | refine q_31E rfl (by decide) hn' ?_ | refine q_31 rfl (by decide) ?_
          refine q_geN (by omega) (by omega) (fun hh => absurd hh (by omega)) (fun hh => ?_)
          refine q_5 rfl ?_
          refine q_33 rfl (by decide) (hP _ _ _ rfl) ?_
          refine q_3 rfl ?_
          first | refine q_38E _ rfl (by decide) rfl (by show _ < 10; omega) (by decide) (w61') ?_ | refine q_38 _ rfl (by decide) rfl (by show _ < 10; omega) (by decide) ?_
          refine q_6 rfl rfl rfl ?_
          refine q_5 rfl ?_
          first | refine q_31E rfl (by decide) h2'' ?_ | refine q_31 rfl (by decide) ?_
          first | refine q_neN0 (by omega) (fun hh => ?_) (fun hh => absurd hh (by omega)) | refine q_neI0 (fun hh => ?_) (fun hh => absurd (by omega) hh)
          refine q_3 rfl ?_
          refine q_1 ?_
          refine q_eqI (fun z => absurd z (mI_ne (by omega))) (fun _ => ?_)
          refine q_5 rfl ?_
          refine q_33 rfl (by decide) (hP _ _ _ rfl) ?_
          refine q_3 rfl ?_
          refine q_20 rfl rfl ?_
          first | refine q_38E _ rfl (by decide) rfl (by show _ < 10; omega) (by decide) (w63) ?_ | refine q_38 _ rfl (by decide) rfl (by show _ < 10; omega) (by decide) ?_
          refine q_0 ?_
          refine q_3 rfl ?_
          first | refine q_shl1 (by omega) ?_ | refine q_11 rfl ?_
          first | refine q_orN ?_ | refine q_11 rfl ?_
          refine q_42 _ rfl (by decide) rfl (by show _ < 10; omega) (by decide) ?_
          first | refine q_inc rfl rfl rfl ?_ | refine q_9 rfl rfl rfl ?_
          refine q_23 ?_
          exact fin _ (Eqf.rf.up rfl) (by rw [upI_c (by decide)]; exact w62) (by rw [upI_s, e1 q hm hq]) (fun p hp => ⟨by rw [upI_c (by decide)], upI_j hp⟩) _
  show mj_run (mj_ev d) k99 Q (k99 0) [some (.ref 60), none, none] [] (107, I, L, P) 0 0
  refine q_0 ?_
  refine q_6 rfl rfl rfl ?_
  exact L2 0 (by omega) I _ Eqf.rf (fun p hp => absurd hp (by omega)) (fun p _ _ => ⟨rfl, rfl⟩)
/-- the settling from n - j on, D deep -/
def C97 (w : WT) (c h : Nat → Nat) (fr : Nat → Bool) (L : mj_L) (P : mj_P) (D j : Nat) : Prop := ∀ (S : Nat → Bool) (m : MM) (R : List MM) (I : mj_I) (Q : mj_Q), TI w c h I → I 3 0 = nI w.n → (∀ q, q < w.n → S q = true → fr q = true) → (∀ q, q < w.n - j → S q = false) → gm w.n m → (∀ q, S q = true → m q = none) → clm (okA (alk w c h)) (lik w c h) fr w.n S m → (∀ p, p < w.n → S p = false → I 61 p = mI (m p)) → (∀ p, p < w.n → fr p = true → S p = false → I 64 p = nI (maskF (rtm w c h p (m p)) w.n)) → RC w.n R I → R.length + (GG (okA (alk w c h)) (lik w c h) fr w.n j S m).length < 2 ^ 31 → (∀ I', Eqf (frm [61, 62, 63, 64] [(60, 2)]) I I' → (∀ p, p < w.n → S p = false → I' 61 p = I 61 p ∧ I' 64 p = I 64 p) → RC w.n (R ++ GG (okA (alk w c h)) (lik w c h) fr w.n j S m) I' → Q (.inl none) (107, I', L, P)) → mj_ev D 97 [.ref 60, .int (nI (w.n - j)), .int (nI (maskF S w.n)), .int (nI (maskF (fun q => fr q && !S q) w.n))] (107, I, L, P) Q
theorem mk_1 {fr S : Nat → Bool} {n p : Nat} (hp : p < n) (fp : fr p = true) : maskF (fun q => fr q && !S q) n ||| 2 ^ p = maskF (fun q => fr q && !sm S p q) n := by
  rw [mask_orb _ hp]
  refine mask_congr (fun q _ => ?_)
  unfold sm
  by_cases e : q = p
  · subst e
    simp [fp]
  · simp [e]
set_option maxHeartbeats 1000000 in
theorem c_97b (hP : PS t P) (hn10 : w.n ≤ 10) (i : Nat) (rec : ∀ j, j < i → j ≤ w.n → C97 w c h fr L P (d + i + 2) j) : ∀ j, j ≤ i → j ≤ w.n → C97 w c h fr L P (d + i + 3) j := by
  intro j hji hjn S m R I Q hT hn hSf hSl hg hSm hC h61 h64 hR hlen k
  refine ⟨rfl, ?_⟩
  have tT : ∀ {I' : mj_I}, Eqf (frm [61, 62, 63, 64] [(60, 2)]) I I' → TI w c h I' := fun e => ⟨fun p hp => (e 56 p rfl).trans (hT.1 p hp), fun x y hx hy hxy => (e 57 _ rfl).trans (hT.2 x y hx hy hxy)⟩
  have M43 : ∀ one, one < w.n → w.n - j ≤ one → (∀ q, q < one → S q = false) → S one = true → ∀ x5 x6 x7, mj_run (mj_ev (d + i + 2)) k97 Q (k97 43) [some (.ref 60), some (.int (nI (w.n - j))), some (.int (nI (maskF S w.n))), some (.int (nI (maskF (fun q => fr q && !S q) w.n))), some (.int (nI one)), x5, x6, x7] [] (107, I, L, P) 0 0 := by
    intro one hone hjo hlow hSo x5 x6 x7
    have fo := hSf one hone hSo
    have mo := hSm one hSo
    have hv := hT.1 one hone
    have eG : GG (okA (alk w c h)) (lik w c h) fr w.n j S m = rsc (GG (okA (alk w c h)) (lik w c h) fr w.n (w.n - (one + 1))) (okA (alk w c h)) w.n S m one (w.n - (one + 1)) ++ GG (okA (alk w c h)) (lik w c h) fr w.n (w.n - (one + 1)) (sm S one) m := (GG_skip hjn (by omega) (by omega) (fun q _ hq => hlow q hq)).trans (GG_step hone rfl hSo)
    have efrom : w.n - (w.n - (one + 1)) = one + 1 := by omega
    have L88 : ∀ o, o ≤ w.n → one + 1 ≤ o → ∀ I1 R1, Eqf (frm [61, 62, 63, 64] [(60, 2)]) I I1 → (∀ p, p < w.n → S p = false → I1 61 p = I 61 p ∧ I1 64 p = I 64 p) → RC w.n R1 I1 → R1 ++ (rsc (GG (okA (alk w c h)) (lik w c h) fr w.n (w.n - (one + 1))) (okA (alk w c h)) w.n S m one (w.n - o) ++ GG (okA (alk w c h)) (lik w c h) fr w.n (w.n - (one + 1)) (sm S one) m) = R ++ GG (okA (alk w c h)) (lik w c h) fr w.n j S m → mj_run (mj_ev (d + i + 2)) k97 Q (k97 88) [some (.ref 60), some (.int (nI (w.n - j))), some (.int (nI (maskF S w.n))), some (.int (nI (maskF (fun q => fr q && !S q) w.n))), some (.int (nI one)), some (.int (nI (maskF (sm S one) w.n))), some (.int (nI (maskF (fun q => my w c h one q && sm S one q) w.n))), some (.int (nI o))] [] (107, I1, L, P) 0 0 := by
      refine loop_up ?_ (fun o ho ih => ?_)
      · intro _ I1 R1 e1 same hR1 hEq
        have hn1 : I1 3 0 = nI w.n := (e1 3 0 rfl).trans hn
        rw [Nat.sub_self] at hEq
        have hEq' : R1 ++ GG (okA (alk w c h)) (lik w c h) fr w.n (w.n - (one + 1)) (sm S one) m = R ++ GG (okA (alk w c h)) (lik w c h) fr w.n j S m := hEq
        have h64' : ∀ p, p < w.n → fr p = true → S p = false → I1 64 p = nI (maskF (rtm w c h p (m p)) w.n) := fun p hp f1 s1 => (same p hp s1).2.trans (h64 p hp f1 s1)
        cases hcm : cm w c h fr S m one none with
        | false =>
          rw [GG_no1 hSo hone fo mo hcm, List.append_nil] at hEq'
          refine q_3 rfl ?_
          refine q_5 rfl ?_
          refine q_33 rfl (by decide) (hP _ _ _ rfl) ?_
          first | refine q_31E rfl (by decide) hn1 ?_ | refine q_31 rfl (by decide) ?_
          refine q_geN (by omega) (by omega) (fun hh => ?_) (fun hh => absurd hh (by omega))
          refine q_5 rfl ?_
          refine q_3 rfl ?_
          refine q_1 ?_
          refine q_3 rfl ?_
          refine q_47 (mj_ev_mono _) [_, _, _] rfl rfl rfl (by decide) rfl rfl rfl ?_
          refine c_98 (o := none) (m := m) hP (tT e1) hn1 hn10 hone (fun q hq => by cases hq) hSo h64' (fun I2 e2 => ?_)
          rw [hcm, if_neg (by decide)]
          first | refine q_eqN0 (by omega) (fun hh => ?_) (fun hh => absurd hh (by omega)) | refine q_eqI0 (fun hh => ?_) (fun hh => absurd (by omega) hh)
          refine q_25 ?_
          subst e2
          refine k _ ((e1.up rfl).up rfl) (fun p hp sp => ?_) ?_
          · have hne : p ≠ one := fun e => by rw [e, hSo] at sp; cases sp
            rw [upI_c (by decide), upI_j hne, upI_j hne, upI_c (by decide)]
            exact same p hp sp
          · rw [← hEq']
            exact hR1
        | true =>
          have hlen2 : R1.length + (GG (okA (alk w c h)) (lik w c h) fr w.n (w.n - (one + 1)) (sm S one) m).length < 2 ^ 31 := by
            have := congrArg List.length hEq'
            rw [List.length_append, List.length_append] at this
            omega
          refine q_3 rfl ?_
          refine q_5 rfl ?_
          refine q_33 rfl (by decide) (hP _ _ _ rfl) ?_
          first | refine q_31E rfl (by decide) hn1 ?_ | refine q_31 rfl (by decide) ?_
          refine q_geN (by omega) (by omega) (fun hh => ?_) (fun hh => absurd hh (by omega))
          refine q_5 rfl ?_
          refine q_3 rfl ?_
          refine q_1 ?_
          refine q_3 rfl ?_
          refine q_47 (mj_ev_mono _) [_, _, _] rfl rfl rfl (by decide) rfl rfl rfl ?_
          refine c_98 (o := none) (m := m) hP (tT e1) hn1 hn10 hone (fun q hq => by cases hq) hSo h64' (fun I2 e2 => ?_)
          rw [hcm, if_pos rfl]
          first | refine q_eqN0 (by omega) (fun hh => absurd hh (by omega)) (fun hh => ?_) | refine q_eqI0 (fun hh => absurd hh (by omega)) (fun hh => ?_)
          refine q_5 rfl ?_
          refine q_3 rfl ?_
          refine q_0 ?_
          first | refine q_add ?_ | refine q_11 rfl ?_
          refine q_3 rfl ?_
          refine q_3 rfl ?_
          refine q_0 ?_
          refine q_3 rfl ?_
          first | refine q_shl1 (by omega) ?_ | refine q_11 rfl ?_
          first | refine q_orN ?_ | refine q_11 rfl ?_
          rw [mk_1 hone fo]
          refine q_47 (mj_ev_mono _) [_, _, _] rfl rfl rfl (by decide) rfl rfl rfl ?_
          have E2 : Eqf (frm [61, 62, 63, 64] [(60, 2)]) I I2 := by subst e2; exact (e1.up rfl).up rfl
          have s2 : ∀ p, p < w.n → S p = false → I2 61 p = I 61 p ∧ I2 64 p = I 64 p := fun p hp sp => by
            have hne : p ≠ one := fun e => by rw [e, hSo] at sp; cases sp
            subst e2
            rw [upI_c (by decide), upI_j hne, upI_j hne, upI_c (by decide)]
            exact same p hp sp
          have v61 : I2 61 one = mI none := by subst e2; rw [upI_c (by decide)]; exact upI_s
          have v64 : I2 64 one = nI (maskF (rtm w c h one none) w.n) := by subst e2; exact upI_s
          have cs : ∀ p, sm S one p = false → p = one ∨ S p = false := fun p hp => by
            by_cases e : p = one
            · exact Or.inl e
            · unfold sm at hp
              simp [e] at hp
              exact Or.inr hp
          have r9 := rec (w.n - (one + 1)) (by omega) (by omega) (sm S one) m R1 I2
          rw [efrom] at r9
          refine r9 _ (tT E2) ((E2 3 0 rfl).trans hn) (fun q hq sq => hSf q hq (sm_t.mp sq).1) (fun q hq => ?_) hg (fun q sq => hSm q (sm_t.mp sq).1) (clm_1 hC hSo mo hcm) (fun p hp sp => ?_) (fun p hp fp sp => ?_) (by subst e2; exact hR1) hlen2 (fun I3 e3 s3 hR3 => ?_)
          · by_cases e : q = one
            · rw [e]; exact sm_o
            · exact sm_f (hlow q (by omega))
          · rcases cs p sp with rfl | sp'
            · rw [mo]; exact v61
            · rw [(s2 p hp sp').1]; exact h61 p hp sp'
          · rcases cs p sp with rfl | sp'
            · rw [mo]; exact v64
            · rw [(s2 p hp sp').2]; exact h64 p hp fp sp'
          refine q_25 ?_
          refine k I3 (E2.tr e3) (fun p hp sp => ?_) (by rw [← hEq']; exact hR3)
          have q3 := s3 p hp (sm_f sp)
          rw [q3.1, q3.2]
          exact s2 p hp sp
      · intro hoo I1 R1 e1 same hR1 hEq
        have hn1 : I1 3 0 = nI w.n := (e1 3 0 rfl).trans hn
        have hpo : one ≠ o := by omega
        have h64' : ∀ p, p < w.n → fr p = true → S p = false → I1 64 p = nI (maskF (rtm w c h p (m p)) w.n) := fun p hp f1 s1 => (same p hp s1).2.trans (h64 p hp f1 s1)
        rw [rsc_one (by omega) ho] at hEq
        have skip : ((if S o = true ∧ okA (alk w c h) one o = true then GG (okA (alk w c h)) (lik w c h) fr w.n (w.n - (one + 1)) (sm (sm S one) o) (bnd m one o) else []) = []) → R1 ++ (rsc (GG (okA (alk w c h)) (lik w c h) fr w.n (w.n - (one + 1))) (okA (alk w c h)) w.n S m one (w.n - (o + 1)) ++ GG (okA (alk w c h)) (lik w c h) fr w.n (w.n - (one + 1)) (sm S one) m) = R ++ GG (okA (alk w c h)) (lik w c h) fr w.n j S m := fun e => by
          rw [e] at hEq
          exact hEq
        cases hb : (my w c h one o && sm S one o) with
        | false =>
          have hEq2 := skip (if_neg (fun q => by
            have h1 : my w c h one o = true := by
              unfold my
              exact decide_eq_true ⟨hpo, of_decide_eq_true q.2⟩
            rw [h1, sm_t.mpr ⟨q.1, fun e => hpo e.symm⟩] at hb
            cases hb))
          refine q_3 rfl ?_
          refine q_5 rfl ?_
          refine q_33 rfl (by decide) (hP _ _ _ rfl) ?_
          first | refine q_31E rfl (by decide) hn1 ?_ | refine q_31 rfl (by decide) ?_
          refine q_geN (by omega) (by omega) (fun hh => absurd hh (by omega)) (fun hh => ?_)
          refine q_3 rfl ?_
          refine q_3 rfl ?_
          first | refine q_bitT (by assumption) (by omega) (by omega) ?_ | refine q_bitF (by assumption) (by omega) (by omega) ?_ | refine q_bit (by omega) (by omega) ?_ | refine q_bitM (by first | omega | assumption) (by omega) ?_
          first | refine q_eqN0 (by omega) (fun hh => ?_) (fun hh => absurd hh (by omega)) | refine q_eqI0 (fun hh => ?_) (fun hh => absurd (by omega) hh)
          first | refine q_inc rfl rfl rfl ?_ | refine q_9 rfl rfl rfl ?_
          refine q_23 ?_
          exact ih (by omega) I1 R1 e1 same hR1 hEq2
        | true =>
          have hb' := hb
          rw [Bool.and_eq_true] at hb'
          have hSoo : S o = true := (sm_t.mp hb'.2).1
          have hoko : okA (alk w c h) one o = true := by
            have := of_decide_eq_true hb'.1
            exact decide_eq_true this.2
          have foo := hSf o ho hSoo
          have moo := hSm o hSoo
          rw [if_pos ⟨hSoo, hoko⟩] at skip hEq
          have hne : ∀ p, S p = false → p ≠ one ∧ p ≠ o := fun p sp => ⟨fun e => (by rw [e, hSo] at sp; cases sp), fun e => (by rw [e, hSoo] at sp; cases sp)⟩
          cases hc1 : cm w c h fr S m one (some o) with
          | false =>
            have hEq2 := skip (GG_no2 hSo hSoo hpo hone fo hc1)
            refine q_3 rfl ?_
            refine q_5 rfl ?_
            refine q_33 rfl (by decide) (hP _ _ _ rfl) ?_
            first | refine q_31E rfl (by decide) hn1 ?_ | refine q_31 rfl (by decide) ?_
            refine q_geN (by omega) (by omega) (fun hh => absurd hh (by omega)) (fun hh => ?_)
            refine q_3 rfl ?_
            refine q_3 rfl ?_
            first | refine q_bitT (by assumption) (by omega) (by omega) ?_ | refine q_bitF (by assumption) (by omega) (by omega) ?_ | refine q_bit (by omega) (by omega) ?_ | refine q_bitM (by first | omega | assumption) (by omega) ?_
            first | refine q_eqN0 (by omega) (fun hh => absurd hh (by omega)) (fun hh => ?_) | refine q_eqI0 (fun hh => absurd hh (by omega)) (fun hh => ?_)
            refine q_5 rfl ?_
            refine q_3 rfl ?_
            refine q_3 rfl ?_
            refine q_3 rfl ?_
            refine q_47 (mj_ev_mono _) [_, _, _] rfl rfl rfl (by decide) rfl rfl rfl ?_
            refine c_98 (o := some o) (m := m) hP (tT e1) hn1 hn10 hone (fun q hq => by cases hq; exact ⟨ho, fun e => hpo e.symm⟩) hSo h64' (fun I2 e2 => ?_)
            rw [hc1, if_neg (by decide)]
            first | refine q_eqN0 (by omega) (fun hh => ?_) (fun hh => absurd hh (by omega)) | refine q_eqI0 (fun hh => ?_) (fun hh => absurd (by omega) hh)
            first | refine q_inc rfl rfl rfl ?_ | refine q_9 rfl rfl rfl ?_
            refine q_23 ?_
            subst e2
            refine ih (by omega) _ R1 ((e1.up rfl).up rfl) (fun p hp sp => ?_) hR1 hEq2
            rw [upI_c (by decide), upI_j (hne p sp).1, upI_j (hne p sp).1, upI_c (by decide)]
            exact same p hp sp
          | true =>
            have s2 : ∀ I2, I2 = mj_upI (mj_upI I1 61 one (mI (some o))) 64 one (nI (maskF (rtm w c h one (some o)) w.n)) → Eqf (frm [61, 62, 63, 64] [(60, 2)]) I I2 ∧ (∀ p, p < w.n → S p = false → I2 61 p = I 61 p ∧ I2 64 p = I 64 p) ∧ RC w.n R1 I2 ∧ I2 61 one = mI (some o) ∧ I2 64 one = nI (maskF (rtm w c h one (some o)) w.n) := by
              rintro I2 rfl
              refine ⟨(e1.up rfl).up rfl, fun p hp sp => ?_, hR1, by rw [upI_c (by decide)]; exact upI_s, upI_s⟩
              rw [upI_c (by decide), upI_j (hne p sp).1, upI_j (hne p sp).1, upI_c (by decide)]
              exact same p hp sp
            cases hc2 : cm w c h fr S m o (some one) with
            | false =>
              have hEq2 := skip (GG_no3 hSo hSoo hpo ho foo hc2)
              refine q_3 rfl ?_
              refine q_5 rfl ?_
              refine q_33 rfl (by decide) (hP _ _ _ rfl) ?_
              first | refine q_31E rfl (by decide) hn1 ?_ | refine q_31 rfl (by decide) ?_
              refine q_geN (by omega) (by omega) (fun hh => absurd hh (by omega)) (fun hh => ?_)
              refine q_3 rfl ?_
              refine q_3 rfl ?_
              first | refine q_bitT (by assumption) (by omega) (by omega) ?_ | refine q_bitF (by assumption) (by omega) (by omega) ?_ | refine q_bit (by omega) (by omega) ?_ | refine q_bitM (by first | omega | assumption) (by omega) ?_
              first | refine q_eqN0 (by omega) (fun hh => absurd hh (by omega)) (fun hh => ?_) | refine q_eqI0 (fun hh => absurd hh (by omega)) (fun hh => ?_)
              refine q_5 rfl ?_
              refine q_3 rfl ?_
              refine q_3 rfl ?_
              refine q_3 rfl ?_
              refine q_47 (mj_ev_mono _) [_, _, _] rfl rfl rfl (by decide) rfl rfl rfl ?_
              refine c_98 (o := some o) (m := m) hP (tT e1) hn1 hn10 hone (fun q hq => by cases hq; exact ⟨ho, fun e => hpo e.symm⟩) hSo h64' (fun I2 e2 => ?_)
              rw [hc1, if_pos rfl]
              obtain ⟨E2, t2, hR2, -, -⟩ := s2 I2 e2
              first | refine q_eqN0 (by omega) (fun hh => absurd hh (by omega)) (fun hh => ?_) | refine q_eqI0 (fun hh => absurd hh (by omega)) (fun hh => ?_)
              refine q_5 rfl ?_
              refine q_3 rfl ?_
              refine q_3 rfl ?_
              refine q_3 rfl ?_
              refine q_47 (mj_ev_mono _) [_, _, _] rfl rfl rfl (by decide) rfl rfl rfl ?_
              refine c_98 (o := some one) (m := m) hP (tT E2) ((E2 3 0 rfl).trans hn) hn10 ho (fun q hq => by cases hq; exact ⟨hone, hpo⟩) hSoo (fun p hp f1 s1 => (t2 p hp s1).2.trans (h64 p hp f1 s1)) (fun I3 e3 => ?_)
              rw [hc2, if_neg (by decide)]
              first | refine q_eqN0 (by omega) (fun hh => ?_) (fun hh => absurd hh (by omega)) | refine q_eqI0 (fun hh => ?_) (fun hh => absurd (by omega) hh)
              first | refine q_inc rfl rfl rfl ?_ | refine q_9 rfl rfl rfl ?_
              refine q_23 ?_
              subst e3
              refine ih (by omega) _ R1 ((E2.up rfl).up rfl) (fun p hp sp => ?_) hR2 hEq2
              rw [upI_c (by decide), upI_j (hne p sp).2, upI_j (hne p sp).2, upI_c (by decide)]
              exact t2 p hp sp
            | true =>
              have hEq2 : (R1 ++ GG (okA (alk w c h)) (lik w c h) fr w.n (w.n - (one + 1)) (sm (sm S one) o) (bnd m one o)) ++ (rsc (GG (okA (alk w c h)) (lik w c h) fr w.n (w.n - (one + 1))) (okA (alk w c h)) w.n S m one (w.n - (o + 1)) ++ GG (okA (alk w c h)) (lik w c h) fr w.n (w.n - (one + 1)) (sm S one) m) = R ++ GG (okA (alk w c h)) (lik w c h) fr w.n j S m := by
                rw [← hEq]
                simp only [List.append_assoc]
              have hlen2 : R1.length + (GG (okA (alk w c h)) (lik w c h) fr w.n (w.n - (one + 1)) (sm (sm S one) o) (bnd m one o)).length < 2 ^ 31 := by
                have := congrArg List.length hEq2
                simp only [List.length_append] at this
                omega
              have cs : ∀ p, sm (sm S one) o p = false → p = one ∨ p = o ∨ S p = false := fun p hp => by
                by_cases e : p = o
                · exact Or.inr (Or.inl e)
                · by_cases e' : p = one
                  · exact Or.inl e'
                  · unfold sm at hp
                    simp [e, e'] at hp
                    exact Or.inr (Or.inr hp)
              refine q_3 rfl ?_
              refine q_5 rfl ?_
              refine q_33 rfl (by decide) (hP _ _ _ rfl) ?_
              first | refine q_31E rfl (by decide) hn1 ?_ | refine q_31 rfl (by decide) ?_
              refine q_geN (by omega) (by omega) (fun hh => absurd hh (by omega)) (fun hh => ?_)
              refine q_3 rfl ?_
              refine q_3 rfl ?_
              first | refine q_bitT (by assumption) (by omega) (by omega) ?_ | refine q_bitF (by assumption) (by omega) (by omega) ?_ | refine q_bit (by omega) (by omega) ?_ | refine q_bitM (by first | omega | assumption) (by omega) ?_
              first | refine q_eqN0 (by omega) (fun hh => absurd hh (by omega)) (fun hh => ?_) | refine q_eqI0 (fun hh => absurd hh (by omega)) (fun hh => ?_)
              refine q_5 rfl ?_
              refine q_3 rfl ?_
              refine q_3 rfl ?_
              refine q_3 rfl ?_
              refine q_47 (mj_ev_mono _) [_, _, _] rfl rfl rfl (by decide) rfl rfl rfl ?_
              refine c_98 (o := some o) (m := m) hP (tT e1) hn1 hn10 hone (fun q hq => by cases hq; exact ⟨ho, fun e => hpo e.symm⟩) hSo h64' (fun I2 e2 => ?_)
              rw [hc1, if_pos rfl]
              obtain ⟨E2, t2, hR2, v61, v64⟩ := s2 I2 e2
              first | refine q_eqN0 (by omega) (fun hh => absurd hh (by omega)) (fun hh => ?_) | refine q_eqI0 (fun hh => absurd hh (by omega)) (fun hh => ?_)
              refine q_5 rfl ?_
              refine q_3 rfl ?_
              refine q_3 rfl ?_
              refine q_3 rfl ?_
              refine q_47 (mj_ev_mono _) [_, _, _] rfl rfl rfl (by decide) rfl rfl rfl ?_
              refine c_98 (o := some one) (m := m) hP (tT E2) ((E2 3 0 rfl).trans hn) hn10 ho (fun q hq => by cases hq; exact ⟨hone, hpo⟩) hSoo (fun p hp f1 s1 => (t2 p hp s1).2.trans (h64 p hp f1 s1)) (fun I3 e3 => ?_)
              rw [hc2, if_pos rfl]
              first | refine q_eqN0 (by omega) (fun hh => absurd hh (by omega)) (fun hh => ?_) | refine q_eqI0 (fun hh => absurd hh (by omega)) (fun hh => ?_)
              refine q_5 rfl ?_
              refine q_3 rfl ?_
              refine q_0 ?_
              first | refine q_add ?_ | refine q_11 rfl ?_
              refine q_3 rfl ?_
              refine q_0 ?_
              refine q_3 rfl ?_
              first | refine q_shl1 (by omega) ?_ | refine q_11 rfl ?_
              first | refine q_xorN ?_ | refine q_11 rfl ?_
              rw [mask_x ho hb'.2]
              refine q_3 rfl ?_
              refine q_0 ?_
              refine q_3 rfl ?_
              first | refine q_shl1 (by omega) ?_ | refine q_11 rfl ?_
              first | refine q_orN ?_ | refine q_11 rfl ?_
              rw [mk_1 hone fo]
              refine q_0 ?_
              refine q_3 rfl ?_
              first | refine q_shl1 (by omega) ?_ | refine q_11 rfl ?_
              first | refine q_orN ?_ | refine q_11 rfl ?_
              rw [mk_1 ho foo]
              refine q_47 (mj_ev_mono _) [_, _, _] rfl rfl rfl (by decide) rfl rfl rfl ?_
              have E3 : Eqf (frm [61, 62, 63, 64] [(60, 2)]) I I3 := by subst e3; exact (E2.up rfl).up rfl
              have t3 : ∀ p, p < w.n → S p = false → I3 61 p = I 61 p ∧ I3 64 p = I 64 p := fun p hp sp => by
                subst e3
                rw [upI_c (by decide), upI_j (hne p sp).2, upI_j (hne p sp).2, upI_c (by decide)]
                exact t2 p hp sp
              have w61 : I3 61 o = mI (some one) := by subst e3; rw [upI_c (by decide)]; exact upI_s
              have w64 : I3 64 o = nI (maskF (rtm w c h o (some one)) w.n) := by subst e3; exact upI_s
              have x61 : I3 61 one = mI (some o) := by subst e3; rw [upI_c (by decide), upI_j hpo]; exact v61
              have x64 : I3 64 one = nI (maskF (rtm w c h one (some o)) w.n) := by subst e3; rw [upI_j hpo, upI_c (by decide)]; exact v64
              have hR3 : RC w.n R1 I3 := by subst e3; exact hR2
              have r9 := rec (w.n - (one + 1)) (by omega) (by omega) (sm (sm S one) o) (bnd m one o) R1 I3
              rw [efrom] at r9
              refine r9 _ (tT E3) ((E3 3 0 rfl).trans hn) (fun q hq sq => hSf q hq (sm_t.mp (sm_t.mp sq).1).1) (fun q hq => ?_) (gm_bnd hg hone ho hpo mo moo) (fun q sq => ?_) (clm_2 hC hSo hSoo hpo hc1 hc2) (fun p hp sp => ?_) (fun p hp fp sp => ?_) hR3 hlen2 (fun I4 e4 s4 hR4 => ?_)
              · by_cases e : q = one
                · rw [e]; exact sm_f sm_o
                · exact sm_f (sm_f (hlow q (by omega)))
              · have q1 := sm_t.mp sq
                have q2 := sm_t.mp q1.1
                rw [bnd_o q2.2 q1.2]
                exact hSm q q2.1
              · rcases cs p sp with rfl | rfl | sp'
                · rw [bnd_a hpo]; exact x61
                · rw [bnd_b]; exact w61
                · rw [bnd_o (hne p sp').1 (hne p sp').2, (t3 p hp sp').1]; exact h61 p hp sp'
              · rcases cs p sp with rfl | rfl | sp'
                · rw [bnd_a hpo]; exact x64
                · rw [bnd_b]; exact w64
                · rw [bnd_o (hne p sp').1 (hne p sp').2, (t3 p hp sp').2]; exact h64 p hp fp sp'
              first | refine q_inc rfl rfl rfl ?_ | refine q_9 rfl rfl rfl ?_
              refine q_23 ?_
              refine ih (by omega) I4 _ (E3.tr e4) (fun p hp sp => ?_) hR4 hEq2
              have q4 := s4 p hp (sm_f (sm_f sp))
              rw [q4.1, q4.2]
              exact t3 p hp sp
    refine q_3 rfl ?_
    refine q_5 rfl ?_
    refine q_33 rfl (by decide) (hP _ _ _ rfl) ?_
    first | refine q_31E rfl (by decide) hn ?_ | refine q_31 rfl (by decide) ?_
    refine q_ltN (by omega) (by omega) (fun hh => ?_) (fun hh => absurd hh (by omega))
    refine q_3 rfl ?_
    refine q_0 ?_
    refine q_3 rfl ?_
    first | refine q_shl1 (by omega) ?_ | refine q_11 rfl ?_
    first | refine q_xorN ?_ | refine q_11 rfl ?_
    rw [mask_x hone hSo]
    refine q_6 rfl rfl rfl ?_
    refine q_5 rfl ?_
    refine q_33 rfl (by decide) (hP _ _ _ rfl) ?_
    refine q_3 rfl ?_
    refine q_47 (mj_ev_mono _) [_] rfl rfl rfl (by decide) rfl rfl rfl ?_
    refine c_71 hP hT hn10 hone ?_
    refine q_3 rfl ?_
    first | refine q_andN ?_ | refine q_11 rfl ?_
    rw [mask_and]
    refine q_6 rfl rfl rfl ?_
    refine q_3 rfl ?_
    refine q_0 ?_
    first | refine q_add ?_ | refine q_11 rfl ?_
    refine q_6 rfl rfl rfl ?_
    exact L88 (one + 1) (by omega) (Nat.le_refl _) I R Eqf.rf (fun _ _ _ => ⟨rfl, rfl⟩) hR (by rw [eG])
  have N43 : (∀ q, q < w.n → S q = false) → ∀ x5 x6 x7, mj_run (mj_ev (d + i + 2)) k97 Q (k97 43) [some (.ref 60), some (.int (nI (w.n - j))), some (.int (nI (maskF S w.n))), some (.int (nI (maskF (fun q => fr q && !S q) w.n))), some (.int (nI w.n)), x5, x6, x7] [] (107, I, L, P) 0 0 := by
    intro hz x5 x6 x7
    have eG := GG_end (ok := okA (alk w c h)) (li := lik w c h) (fr := fr) (m := m) hjn hC hz
    rw [eG] at k
    refine q_3 rfl ?_
    refine q_5 rfl ?_
    refine q_33 rfl (by decide) (hP _ _ _ rfl) ?_
    first | refine q_31E rfl (by decide) hn ?_ | refine q_31 rfl (by decide) ?_
    refine q_ltN (by omega) (by omega) (fun hh => absurd hh (by omega)) (fun hh => ?_)
    refine q_5 rfl ?_
    refine q_47 (mj_ev_mono _) [] rfl rfl rfl (by decide) rfl rfl rfl ?_
    refine c_99 (m := m) hP hn hn10 hg (fun q hq => h61 q hq (hz q hq)) hR (by omega) (fun I1 e1 hR1 => ?_)
    refine q_25 ?_
    exact k I1 (e1.to rfl rfl) (fun p hp _ => ⟨e1 61 p rfl, e1 64 p rfl⟩) hR1
  have L6 : ∀ one, one ≤ w.n → w.n - j ≤ one → (∀ q, q < one → S q = false) → ∀ x6 x7, mj_run (mj_ev (d + i + 2)) k97 Q (k97 6) [some (.ref 60), some (.int (nI (w.n - j))), some (.int (nI (maskF S w.n))), some (.int (nI (maskF (fun q => fr q && !S q) w.n))), some (.int (nI one)), some (.int (nI (one - (w.n - j)))), x6, x7] [] (107, I, L, P) 0 0 := by
    refine loop_up ?_ (fun one hone ih => ?_)
    · intro h1 h2 x6 x7
      rcases Nat.lt_or_ge (w.n - (w.n - j)) 10 with hlt | hge
      · refine q_3 rfl ?_
        refine q_0 ?_
        refine q_geN (by omega) (by omega) (fun hh => absurd hh (by omega)) (fun hh => ?_)
        refine q_3 rfl ?_
        refine q_5 rfl ?_
        refine q_33 rfl (by decide) (hP _ _ _ rfl) ?_
        first | refine q_31E rfl (by decide) hn ?_ | refine q_31 rfl (by decide) ?_
        refine q_geN (by omega) (by omega) (fun hh => ?_) (fun hh => absurd hh (by omega))
        exact N43 h2 _ _ _
      · refine q_3 rfl ?_
        refine q_0 ?_
        refine q_geN (by omega) (by omega) (fun hh => ?_) (fun hh => absurd hh (by omega))
        exact N43 h2 _ _ _
    · intro h1 h2 x6 x7
      cases hSo : S one with
      | true =>
        refine q_3 rfl ?_
        refine q_0 ?_
        refine q_geN (by omega) (by omega) (fun hh => absurd hh (by omega)) (fun hh => ?_)
        refine q_3 rfl ?_
        refine q_5 rfl ?_
        refine q_33 rfl (by decide) (hP _ _ _ rfl) ?_
        first | refine q_31E rfl (by decide) hn ?_ | refine q_31 rfl (by decide) ?_
        refine q_geN (by omega) (by omega) (fun hh => absurd hh (by omega)) (fun hh => ?_)
        refine q_3 rfl ?_
        refine q_3 rfl ?_
        first | refine q_bitT (by assumption) (by omega) (by omega) ?_ | refine q_bitF (by assumption) (by omega) (by omega) ?_ | refine q_bit (by omega) (by omega) ?_ | refine q_bitM (by first | omega | assumption) (by omega) ?_
        first | refine q_neN0 (by omega) (fun hh => ?_) (fun hh => absurd hh (by omega)) | refine q_neI0 (fun hh => ?_) (fun hh => absurd (by omega) hh)
        exact M43 one hone h1 h2 hSo _ _ _
      | false =>
        have e9 : one - (w.n - j) + 1 = one + 1 - (w.n - j) := by omega
        refine q_3 rfl ?_
        refine q_0 ?_
        refine q_geN (by omega) (by omega) (fun hh => absurd hh (by omega)) (fun hh => ?_)
        refine q_3 rfl ?_
        refine q_5 rfl ?_
        refine q_33 rfl (by decide) (hP _ _ _ rfl) ?_
        first | refine q_31E rfl (by decide) hn ?_ | refine q_31 rfl (by decide) ?_
        refine q_geN (by omega) (by omega) (fun hh => absurd hh (by omega)) (fun hh => ?_)
        refine q_3 rfl ?_
        refine q_3 rfl ?_
        first | refine q_bitT (by assumption) (by omega) (by omega) ?_ | refine q_bitF (by assumption) (by omega) (by omega) ?_ | refine q_bit (by omega) (by omega) ?_ | refine q_bitM (by first | omega | assumption) (by omega) ?_
        first | refine q_neN0 (by omega) (fun hh => absurd hh (by omega)) (fun hh => ?_) | refine q_neI0 (fun hh => absurd hh (by omega)) (fun hh => ?_)
        first | refine q_inc rfl rfl rfl ?_ | refine q_9 rfl rfl rfl ?_
        first | refine q_inc rfl rfl rfl ?_ | refine q_9 rfl rfl rfl ?_
        refine q_23 ?_
        rw [e9]
        exact ih (by omega) (fun q hq => (Nat.lt_or_ge q one).elim (fun z => h2 q z) (fun z => by rw [show q = one by omega]; exact hSo)) _ _
  show mj_run (mj_ev (d + i + 2)) k97 Q (k97 0) [some (.ref 60), some (.int (nI (w.n - j))), some (.int (nI (maskF S w.n))), some (.int (nI (maskF (fun q => fr q && !S q) w.n))), none, none, none, none] [] (107, I, L, P) 0 0
  refine q_3 rfl ?_
  refine q_6 rfl rfl rfl ?_
  refine q_0 ?_
  refine q_6 rfl rfl rfl ?_
  have r0 := L6 (w.n - j) (by omega) (Nat.le_refl _) hSl none none
  rw [Nat.sub_self] at r0
  exact r0
theorem c_97 (hP : PS t P) (hn10 : w.n ≤ 10) : ∀ i j, j ≤ i → j ≤ w.n → C97 w c h fr L P (d + i + 3) j := by
  intro i
  induction i with
  | zero => exact c_97b (d := d) hP hn10 0 (fun j hj => absurd hj (by omega))
  | succ i ih => exact c_97b (d := d) hP hn10 (i + 1) (fun j hj hjn => ih j (by omega) hjn)
end C
