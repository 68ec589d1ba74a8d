/-! the class's tokens -/
theorem sbt_in {x : Nat} (h : x < 128) : sbt x = nI x := if_pos h
theorem sbt_97 : ∀ x, x < 256 → 128 ≤ x → sbt x < nI 97 := by decide +kernel
theorem sbt_48 : ∀ x, x < 256 → 128 ≤ x → sbt x < nI 48 := by decide +kernel
theorem sbt_0 : ∀ x, x < 256 → 128 ≤ x → sbt x ≤ 0 := by decide +kernel
theorem sbt_32 : ∀ x, x < 256 → 128 ≤ x → ¬ sbt x = nI 32 ∧ ¬ sbt x = nI 10 := by decide +kernel
def RB (b : Nat → Nat) (n : Nat) (I : mj_I) : Prop := (∀ i, i < n → I 1 i = sbt (b i) ∧ b i < 256) ∧ n ≤ 700 ∧ I 29 3 = nI n
def TR (b : Nat → Nat) (n j : Nat) (I : mj_I) : Prop := I 29 4 = nI (tkp b n (j + 1)) ∧ I 29 5 = nI (tB b n j) ∧ I 29 6 = nI (tK b n j) ∧ (tK b n j = 20 → I 29 7 = nI (tV b n j) ∧ I 29 8 = nI (tD b n j))
def tcF : List (Nat × Nat) := [(29, 4), (29, 5), (29, 6), (29, 7), (29, 8)]
theorem kwd_at {b : Nat → Nat} {s l w : Nat} (hw : w < 19) (hL : ∀ i, i < l → 97 ≤ b (s + i) ∧ b (s + i) ≤ 122) (h : wq b s l w = true) : kwd b s l = w := by
  unfold kwd
  rw [fnd_is (Nat.zero_le _) hw h (fun j _ hj => by
    cases e : wq b s l j with
    | false => rfl
    | true =>
      have := wq_uni (by omega) hw hL e h
      omega)]
  rfl
theorem kwd_19 {b : Nat → Nat} {s l : Nat} (h : ∀ w, w < 19 → wq b s l w = false) : kwd b s l = 19 := by
  unfold kwd
  rw [fnd_none.mpr (fun j _ hj => h j hj)]
  rfl
section C
variable {I : mj_I} {L : mj_L} {P : mj_P} {Q : mj_Q} {d n r t j s : Nat} {b : Nat → Nat}
theorem RB.fr {I' : mj_I} (h : RB b n I) (e : ∀ q, I' 1 q = I 1 q) (e3 : I' 29 3 = I 29 3) : RB b n I' := ⟨fun i hi => ⟨(e i).trans (h.1 i hi).1, (h.1 i hi).2⟩, h.2.1, e3.trans h.2.2⟩
set_option maxHeartbeats 1000000 in
theorem c_40 (hP : PS t P) (hB : RB b n I) (hs : s < n) (h4 : I 29 4 = nI s) (h5 : I 29 5 = nI s) (k : ∀ I', Eqf (frm [] [(29, 4), (29, 6)]) I I' → I' 29 4 = nI (wnd b n s) → I' 29 6 = nI (kwd b s (wnd b n s - s)) → Q (.inl none) (107, I', L, P)) : mj_ev (d + 5) 40 [.ref 29] (107, I, L, P) Q := by
  refine ⟨rfl, ?_⟩
  have hn7 := hB.2.1
  obtain ⟨e1, e2, e3, e4⟩ := upTo_spec (q := fun i => isL (b i)) (Nat.le_of_lt hs)
  have eW : upTo (fun i => isL (b i)) n s = wnd b n s := rfl
  rw [eW] at e1 e2 e3 e4
  generalize wnd b n s = e at *
  have hL : ∀ i, i < e - s → 97 ≤ b (s + i) ∧ b (s + i) ≤ 122 := fun i hi => isL_iff.mp (e3 (s + i) (by omega) (by omega))
  -- words
  have fB : ∀ {I' : mj_I}, Eqf (frm [] [(29, 4), (29, 6)]) I I' → RB b n I' := fun E => hB.fr (fun q => E 1 q rfl) (E 29 3 rfl)
  have word : ∀ w, w ≤ 19 → ∀ I' x3 x4 x5, Eqf (frm [] [(29, 4), (29, 6)]) I I' → I' 29 4 = nI e → (I' 29 6 = nI 19 ∧ (∀ v, v < w → wq b s (e - s) v = false) ∨ ∃ q, q < w ∧ I' 29 6 = nI q ∧ wq b s (e - s) q = true) → mj_run (mj_ev (d + 4)) k40 Q (k40 65) [some (.ref 29), some (.int (nI (e - s))), some (.int (nI w)), x3, x4, x5] [] (107, I', L, P) 0 0 := by
    refine loop_up ?_ (fun w hw ih => ?_)
    · intro I' x3 x4 x5 E g4 g6
      have fin : I' 29 6 = nI (kwd b s (e - s)) := by
        rcases g6 with ⟨q1, q2⟩ | ⟨q, q1, q2, q3⟩
        · rw [kwd_19 q2]; exact q1
        · rw [kwd_at q1 hL q3]; exact q2
      refine q_3 rfl ?_
      refine q_0 ?_
      refine q_geN (by omega) (by omega) (fun hh => ?_) (fun hh => absurd hh (by omega))
      refine q_25 ?_
      exact k I' E g4 fin
    · intro I' x3 x4 x5 E g4 g6
      by_cases h8 : 8 ≤ e - s
      · have all : ∀ v, v < 19 → wq b s (e - s) v = false := fun v hv => by
          cases ew : wq b s (e - s) v with
          | false => rfl
          | true =>
            have := (wq_iff.mp ew).1
            have := (wT_ok v hv).1
            omega
        have fin : I' 29 6 = nI (kwd b s (e - s)) := by
          rcases g6 with ⟨q1, q2⟩ | ⟨q, q1, q2, q3⟩
          · rw [kwd_19 all]; exact q1
          · rw [all q (by omega)] at q3; cases q3
        refine q_3 rfl ?_
        refine q_0 ?_
        refine q_geN (by omega) (by omega) (fun hh => absurd hh (by omega)) (fun hh => ?_)
        refine q_3 rfl ?_
        refine q_0 ?_
        refine q_geN (by omega) (by omega) (fun hh => ?_) (fun hh => absurd hh (by omega))
        refine q_25 ?_
        exact k I' E g4 fin
      · have l8 : e - s < 8 := by omega
        have h5' : I' 29 5 = nI s := (E 29 5 rfl).trans h5
        have hB' := fB E
        have txt := wq_txt (w := w) hw l8 hL
        -- behind the letters
        have tail : ∀ m i, m ≤ e - s → (m = e - s ↔ ∀ q, q < e - s → b (s + q) = wT (8 * w + q)) → mj_run (mj_ev (d + 4)) k40 Q (k40 127) [some (.ref 29), some (.int (nI (e - s))), some (.int (nI w)), some (.int (nI (w * 8))), some (.int (nI m)), some (.int (nI i))] [] (107, I', L, P) 0 0 := by
          intro m i hm hq
          by_cases c1 : m = e - s
          · have wl := wT_lt (w * 8 + (e - s)) (by omega)
            by_cases c2 : wT (w * 8 + (e - s)) = 32
            · have yes : wq b s (e - s) w = true := txt.mpr ⟨hq.mp c1, by rw [Nat.mul_comm]; exact c2⟩
              refine q_3 rfl ?_
              refine q_3 rfl ?_
              refine q_neN (by omega) (by omega) (fun hh => absurd hh (by omega)) (fun hh => ?_)
              refine q_55 ?_
              refine q_3 rfl ?_
              refine q_3 rfl ?_
              first | refine q_add ?_ | refine q_11 rfl ?_
              refine q_62 (mj_ev_mono _) [_] rfl (by omega) rfl rfl rfl rfl ?_
              refine c_283 (by omega) ?_
              refine q_0 ?_
              refine q_neN (by omega) (by omega) (fun hh => absurd hh (by omega)) (fun hh => ?_)
              refine q_5 rfl ?_
              refine q_3 rfl ?_
              refine q_34 rfl (by decide) ?_
              first | refine q_inc rfl rfl rfl ?_ | refine q_9 rfl rfl rfl ?_
              refine q_23 ?_
              exact ih _ _ _ _ (E.up rfl) (by rw [upI_j (by decide)]; exact g4) (Or.inr ⟨w, by omega, upI_s, yes⟩)
            · have no : wq b s (e - s) w = false := by
                cases ew : wq b s (e - s) w with
                | false => rfl
                | true =>
                  have := (txt.mp ew).2
                  rw [Nat.mul_comm] at this
                  exact absurd this c2
              refine q_3 rfl ?_
              refine q_3 rfl ?_
              refine q_neN (by omega) (by omega) (fun hh => absurd hh (by omega)) (fun hh => ?_)
              refine q_55 ?_
              refine q_3 rfl ?_
              refine q_3 rfl ?_
              first | refine q_add ?_ | refine q_11 rfl ?_
              refine q_62 (mj_ev_mono _) [_] rfl (by omega) rfl rfl rfl rfl ?_
              refine c_283 (by omega) ?_
              refine q_0 ?_
              refine q_neN (by omega) (by omega) (fun hh => ?_) (fun hh => absurd hh (by omega))
              first | refine q_inc rfl rfl rfl ?_ | refine q_9 rfl rfl rfl ?_
              refine q_23 ?_
              refine ih _ _ _ _ E g4 (g6.imp (fun q => ⟨q.1, fun v hv => ?_⟩) (fun ⟨q, q1, q2, q3⟩ => ⟨q, by omega, q2, q3⟩))
              by_cases z : v = w
              · rw [z]; exact no
              · exact q.2 v (by omega)
          · have no : wq b s (e - s) w = false := by
              cases ew : wq b s (e - s) w with
              | false => rfl
              | true => exact absurd (hq.mpr (txt.mp ew).1) c1
            refine q_3 rfl ?_
            refine q_3 rfl ?_
            refine q_neN (by omega) (by omega) (fun hh => ?_) (fun hh => absurd hh (by omega))
            first | refine q_inc rfl rfl rfl ?_ | refine q_9 rfl rfl rfl ?_
            refine q_23 ?_
            refine ih _ _ _ _ E g4 (g6.imp (fun q => ⟨q.1, fun v hv => ?_⟩) (fun ⟨q, q1, q2, q3⟩ => ⟨q, by omega, q2, q3⟩))
            by_cases z : v = w
            · rw [z]; exact no
            · exact q.2 v (by omega)
        have cmp : ∀ i, i ≤ e - s → (∀ q, q < i → b (s + q) = wT (8 * w + q)) → mj_run (mj_ev (d + 4)) k40 Q (k40 88) [some (.ref 29), some (.int (nI (e - s))), some (.int (nI w)), some (.int (nI (w * 8))), some (.int (nI i)), some (.int (nI i))] [] (107, I', L, P) 0 0 := by
          refine loop_up ?_ (fun i hi ih2 => ?_)
          · intro hq
            refine q_3 rfl ?_
            refine q_3 rfl ?_
            refine q_geN (by omega) (by omega) (fun hh => ?_) (fun hh => absurd hh (by omega))
            exact tail _ _ (Nat.le_refl _) ⟨fun _ => hq, fun _ => rfl⟩
          · intro hq
            have li := hL i hi
            have h1 : I' 1 (s + i) = nI (b (s + i)) := ((hB'.1 (s + i) (by omega)).1).trans (sbt_in (by omega))
            have wl := wT_lt (w * 8 + i) (by omega)
            by_cases c : b (s + i) = wT (w * 8 + i)
            · refine q_3 rfl ?_
              refine q_3 rfl ?_
              refine q_geN (by omega) (by omega) (fun hh => absurd hh (by omega)) (fun hh => ?_)
              refine q_5 rfl ?_
              refine q_33 rfl (by decide) (hP _ _ _ rfl) ?_
              refine q_5 rfl ?_
              first | refine q_31E rfl (by decide) h5' ?_ | refine q_31 rfl (by decide) ?_
              refine q_3 rfl ?_
              first | refine q_add ?_ | refine q_11 rfl ?_
              first | refine q_40E _ rfl (by decide) rfl (by show _ < 700; omega) (by decide) (h1) ?_ | refine q_40 _ rfl (by decide) rfl (by show _ < 700; omega) (by decide) ?_
              refine q_55 ?_
              refine q_3 rfl ?_
              refine q_3 rfl ?_
              first | refine q_add ?_ | refine q_11 rfl ?_
              refine q_62 (mj_ev_mono _) [_] rfl (by omega) rfl rfl rfl rfl ?_
              refine c_283 (by omega) ?_
              refine q_neN (by omega) (by omega) (fun hh => absurd hh (by omega)) (fun hh => ?_)
              first | refine q_inc rfl rfl rfl ?_ | refine q_9 rfl rfl rfl ?_
              first | refine q_inc rfl rfl rfl ?_ | refine q_9 rfl rfl rfl ?_
              refine q_23 ?_
              refine ih2 (fun q hq2 => ?_)
              by_cases z : q = i
              · rw [z, c, Nat.mul_comm]
              · exact hq q (by omega)
            · refine q_3 rfl ?_
              refine q_3 rfl ?_
              refine q_geN (by omega) (by omega) (fun hh => absurd hh (by omega)) (fun hh => ?_)
              refine q_5 rfl ?_
              refine q_33 rfl (by decide) (hP _ _ _ rfl) ?_
              refine q_5 rfl ?_
              first | refine q_31E rfl (by decide) h5' ?_ | refine q_31 rfl (by decide) ?_
              refine q_3 rfl ?_
              first | refine q_add ?_ | refine q_11 rfl ?_
              first | refine q_40E _ rfl (by decide) rfl (by show _ < 700; omega) (by decide) (h1) ?_ | refine q_40 _ rfl (by decide) rfl (by show _ < 700; omega) (by decide) ?_
              refine q_55 ?_
              refine q_3 rfl ?_
              refine q_3 rfl ?_
              first | refine q_add ?_ | refine q_11 rfl ?_
              refine q_62 (mj_ev_mono _) [_] rfl (by omega) rfl rfl rfl rfl ?_
              refine c_283 (by omega) ?_
              refine q_neN (by omega) (by omega) (fun hh => ?_) (fun hh => absurd hh (by omega))
              exact tail _ _ (by omega) ⟨fun z => absurd z (by omega), fun z => absurd ((z i hi).trans (by rw [Nat.mul_comm])) c⟩
        refine q_3 rfl ?_
        refine q_0 ?_
        refine q_geN (by omega) (by omega) (fun hh => absurd hh (by omega)) (fun hh => ?_)
        refine q_3 rfl ?_
        refine q_0 ?_
        refine q_geN (by omega) (by omega) (fun hh => absurd hh (by omega)) (fun hh => ?_)
        refine q_3 rfl ?_
        refine q_0 ?_
        first | refine q_mul ?_ | refine q_11 rfl ?_
        refine q_6 rfl rfl rfl ?_
        refine q_0 ?_
        refine q_6 rfl rfl rfl ?_
        refine q_0 ?_
        refine q_6 rfl rfl rfl ?_
        exact cmp 0 (by omega) (fun q hq => absurd hq (by omega))
  -- letters
  have lets : ∀ i, i ≤ e → s ≤ i → ∀ I', Eqf (frm [] [(29, 4), (29, 6)]) I I' → I' 29 4 = nI i → mj_run (mj_ev (d + 4)) k40 Q (k40 2) [some (.ref 29), some (.int (nI (i - s))), none, none, none, none] [] (107, I', L, P) 0 0 := by
    refine loop_up ?_ (fun i hi ih => ?_)
    · intro _ I' E g4
      have h3 := (fB E).2.2
      have out : mj_run (mj_ev (d + 4)) k40 Q (k40 57) [some (.ref 29), some (.int (nI (e - s))), none, none, none, none] [] (107, I', L, P) 0 0 := by
        refine q_5 rfl ?_
        refine q_0 ?_
        refine q_34 rfl (by decide) ?_
        refine q_0 ?_
        refine q_6 rfl rfl rfl ?_
        exact word 0 (by omega) _ _ _ _ (E.up rfl) (by rw [upI_j (by decide)]; exact g4) (Or.inl ⟨upI_s, fun v hv => absurd hv (by omega)⟩)
      by_cases c : e = n
      · refine q_5 rfl ?_
        first | refine q_31E rfl (by decide) g4 ?_ | refine q_31 rfl (by decide) ?_
        refine q_5 rfl ?_
        first | refine q_31E rfl (by decide) h3 ?_ | refine q_31 rfl (by decide) ?_
        refine q_geN (by omega) (by omega) (fun hh => ?_) (fun hh => absurd hh (by omega))
        exact out
      · have nl : isL (b e) = false := e4 (by omega)
        have be := (fB E).1 e (by omega)
        by_cases c8 : 128 ≤ b e
        · have h1 := be.1
          have lt := sbt_97 (b e) be.2 c8
          refine q_5 rfl ?_
          first | refine q_31E rfl (by decide) g4 ?_ | refine q_31 rfl (by decide) ?_
          refine q_5 rfl ?_
          first | refine q_31E rfl (by decide) h3 ?_ | refine q_31 rfl (by decide) ?_
          refine q_geN (by omega) (by omega) (fun hh => absurd hh (by omega)) (fun hh => ?_)
          refine q_5 rfl ?_
          refine q_33 rfl (by decide) (hP _ _ _ rfl) ?_
          refine q_5 rfl ?_
          first | refine q_31E rfl (by decide) g4 ?_ | refine q_31 rfl (by decide) ?_
          first | refine q_40E _ rfl (by decide) rfl (by show _ < 700; omega) (by decide) (h1) ?_ | refine q_40 _ rfl (by decide) rfl (by show _ < 700; omega) (by decide) ?_
          refine q_0 ?_
          refine q_ltI (fun _ => ?_) (fun z => absurd lt z)
          exact out
        · have h1 : I' 1 e = nI (b e) := be.1.trans (sbt_in (by omega))
          by_cases c9 : b e < 97
          · refine q_5 rfl ?_
            first | refine q_31E rfl (by decide) g4 ?_ | refine q_31 rfl (by decide) ?_
            refine q_5 rfl ?_
            first | refine q_31E rfl (by decide) h3 ?_ | refine q_31 rfl (by decide) ?_
            refine q_geN (by omega) (by omega) (fun hh => absurd hh (by omega)) (fun hh => ?_)
            refine q_5 rfl ?_
            refine q_33 rfl (by decide) (hP _ _ _ rfl) ?_
            refine q_5 rfl ?_
            first | refine q_31E rfl (by decide) g4 ?_ | refine q_31 rfl (by decide) ?_
            first | refine q_40E _ rfl (by decide) rfl (by show _ < 700; omega) (by decide) (h1) ?_ | refine q_40 _ rfl (by decide) rfl (by show _ < 700; omega) (by decide) ?_
            refine q_0 ?_
            refine q_ltN (by omega) (by omega) (fun hh => ?_) (fun hh => absurd hh (by omega))
            exact out
          · have c10 : 122 < b e := by
              apply Nat.lt_of_not_le
              intro q
              rw [isL_iff.mpr ⟨by omega, q⟩] at nl
              cases nl
            refine q_5 rfl ?_
            first | refine q_31E rfl (by decide) g4 ?_ | refine q_31 rfl (by decide) ?_
            refine q_5 rfl ?_
            first | refine q_31E rfl (by decide) h3 ?_ | refine q_31 rfl (by decide) ?_
            refine q_geN (by omega) (by omega) (fun hh => absurd hh (by omega)) (fun hh => ?_)
            refine q_5 rfl ?_
            refine q_33 rfl (by decide) (hP _ _ _ rfl) ?_
            refine q_5 rfl ?_
            first | refine q_31E rfl (by decide) g4 ?_ | refine q_31 rfl (by decide) ?_
            first | refine q_40E _ rfl (by decide) rfl (by show _ < 700; omega) (by decide) (h1) ?_ | refine q_40 _ rfl (by decide) rfl (by show _ < 700; omega) (by decide) ?_
            refine q_0 ?_
            refine q_ltN (by omega) (by omega) (fun hh => absurd hh (by omega)) (fun hh => ?_)
            refine q_5 rfl ?_
            refine q_33 rfl (by decide) (hP _ _ _ rfl) ?_
            refine q_5 rfl ?_
            first | refine q_31E rfl (by decide) g4 ?_ | refine q_31 rfl (by decide) ?_
            first | refine q_40E _ rfl (by decide) rfl (by show _ < 700; omega) (by decide) (h1) ?_ | refine q_40 _ rfl (by decide) rfl (by show _ < 700; omega) (by decide) ?_
            refine q_0 ?_
            refine q_gtN (by omega) (by omega) (fun hh => ?_) (fun hh => absurd hh (by omega))
            exact out
    · intro hsi I' E g4
      have h3 := (fB E).2.2
      have li := isL_iff.mp (e3 i hsi hi)
      have h1 : I' 1 i = nI (b i) := ((fB E).1 i (by omega)).1.trans (sbt_in (by omega))
      have ej : i - s + 1 = i + 1 - s := by omega
      refine q_5 rfl ?_
      first | refine q_31E rfl (by decide) g4 ?_ | refine q_31 rfl (by decide) ?_
      refine q_5 rfl ?_
      first | refine q_31E rfl (by decide) h3 ?_ | refine q_31 rfl (by decide) ?_
      refine q_geN (by omega) (by omega) (fun hh => absurd hh (by omega)) (fun hh => ?_)
      refine q_5 rfl ?_
      refine q_33 rfl (by decide) (hP _ _ _ rfl) ?_
      refine q_5 rfl ?_
      first | refine q_31E rfl (by decide) g4 ?_ | refine q_31 rfl (by decide) ?_
      first | refine q_40E _ rfl (by decide) rfl (by show _ < 700; omega) (by decide) (h1) ?_ | refine q_40 _ rfl (by decide) rfl (by show _ < 700; omega) (by decide) ?_
      refine q_0 ?_
      refine q_ltN (by omega) (by omega) (fun hh => absurd hh (by omega)) (fun hh => ?_)
      refine q_5 rfl ?_
      refine q_33 rfl (by decide) (hP _ _ _ rfl) ?_
      refine q_5 rfl ?_
      first | refine q_31E rfl (by decide) g4 ?_ | refine q_31 rfl (by decide) ?_
      first | refine q_40E _ rfl (by decide) rfl (by show _ < 700; omega) (by decide) (h1) ?_ | refine q_40 _ rfl (by decide) rfl (by show _ < 700; omega) (by decide) ?_
      refine q_0 ?_
      refine q_gtN (by omega) (by omega) (fun hh => absurd hh (by omega)) (fun hh => ?_)
      first | refine q_inc rfl rfl rfl ?_ | refine q_9 rfl rfl rfl ?_
      refine q_5 rfl ?_
      refine q_18 rfl ?_
      first | refine q_31E rfl (by decide) g4 ?_ | refine q_31 rfl (by decide) ?_
      refine q_0 ?_
      first | refine q_add ?_ | refine q_11 rfl ?_
      refine q_34 rfl (by decide) ?_
      refine q_23 ?_
      rw [ej]
      exact ih (by omega) _ (E.up rfl) upI_s
  show mj_run (mj_ev (d + 4)) k40 Q (k40 0) [some (.ref 29), none, none, none, none, none] [] (107, I, L, P) 0 0
  have z := lets s e1 (Nat.le_refl _) I Eqf.rf h4
  rw [Nat.sub_self] at z
  refine q_0 ?_
  refine q_6 rfl rfl rfl ?_
  exact z
end C
