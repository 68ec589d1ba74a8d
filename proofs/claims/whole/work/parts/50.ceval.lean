/-! the class's reckoning: a rule's steps, ALIKE, LIKING -/
theorem and63 {k : Nat} (h : k < 64) : nI k &&& nI 63 = nI k := by
  rw [pk_andN (by omega) 6 (by decide), Nat.mod_eq_of_lt (by omega)]
theorem and31 {k : Nat} (h : k < 32) : nI k &&& nI 31 = nI k := by
  rw [pk_andN (by omega) 5 (by decide), Nat.mod_eq_of_lt (by omega)]
theorem stp_k {k v : Nat} (hk : k < 100) (hv : v < 2 ^ 20) : nI (k * 2 ^ 20 + v) >>> (nI 20 &&& 31) = nI k := by
  rw [sh_r (by omega) (by omega)]
  congr 1
  omega
theorem stp_v {k v : Nat} (hk : k < 100) (hv : v < 2 ^ 20) : nI (k * 2 ^ 20 + v) &&& nI 1048575 = nI v := by
  rw [pk_andN (by omega) 20 (by decide)]
  congr 1
  omega
theorem abs_dif {a b : Nat} (ha : a < 2 ^ 30) (hb : b < 2 ^ 30) : (if 0 ≤ nI a - nI b then nI a - nI b else 0 - (nI a - nI b)) = nI (dif a b) := by
  unfold dif
  rcases Nat.lt_or_ge a b with h | h
  · rw [if_neg (Int32.not_le.mpr (pk_sneg hb h)), if_pos h, ← pk_sub (Nat.le_of_lt h)]
    apply Int32.toInt_inj.mp
    rw [Int32.toInt_sub, Int32.toInt_sub, Int32.toInt_sub, nI_toInt (by omega), nI_toInt (by omega)]
    simp
    congr 1
    omega
  · rw [pk_sub h, if_pos (nI_pos' (by omega)), if_neg (by omega)]
/-- kinds of steps and VALUES as the class numbers them -/
def kd (t : Nat) : Nat := if t = 1 then 0 else if t = 2 then 1 else if t = 3 then 2 else if t = 4 then 4 else if t = 5 then 3 else t - 1
def kv (v : Nat) : Nat := if v = 0 then 10 else if v = 1 then 11 else if v = 2 then 13 else if v = 3 then 14 else if v = 4 then 15 else if v = 5 then 0 else if v = 6 then 12 else if v = 7 then 5 else v + 8
def enS (q : Nat × Nat) : Nat := kd q.1 * 2 ^ 20 + (if q.1 = 1 then q.2 else if q.1 = 2 then kv q.2 else 0)
def ruleC (f : Nat → Int32) (x y : Int32) (lo hi : Nat) : Option RP → Prop
  | none => x = nI 0 ∧ y = nI 0
  | some R => ∃ k, x = nI k ∧ y = nI (k + R.length) ∧ k + R.length ≤ 700 ∧ (∀ i q, R[i]? = some q → f (k + i) = nI (enS q)) ∧ rpok lo hi 36 R 0 ∧ 0 < R.length
/-- the pile below its last one -/
def pilC (f : Nat → Int32) : List Int32 → Prop
  | [] => True
  | x :: s => f (s.length + 1) = x ∧ pilC f s
theorem pilC_up {f g : Nat → Int32} : ∀ {s : List Int32}, (∀ j, j ≤ s.length → g j = f j) → pilC f s → pilC g s
  | [], _, _ => trivial
  | x :: s, h, hp => ⟨by rw [h _ (by simp)]; exact hp.1, pilC_up (fun j hj => h j (by rw [List.length_cons]; omega)) hp.2⟩
section C
variable {I : mj_I} {L : mj_L} {P : mj_P} {Q : mj_Q} {σ : mj_S} {d n r t a b : Nat}
theorem c_62 (hP : PS t P) {R : RP} {val : Nat → Int32} {k0 lo hi : Nat} (hhi : hi < 11) (hk0 : k0 + R.length ≤ 700) (hf : ∀ i q, R[i]? = some q → I 14 (k0 + i) = nI (enS q)) (hr : rpok lo hi 36 R 0) (hv : ∀ v, lo ≤ v → v ≤ hi → I 13 (kv v) = val v) (k : ∀ I', Eqf (frm [15] []) I I' → Q (.inl (some (.int (rpv val R)))) (107, I', L, P)) : mj_ev (d + 1) 62 [.ref 12, .int (nI k0), .int (nI (k0 + R.length))] (107, I, L, P) Q := by
  refine ⟨rfl, ?_⟩
  have L8 : ∀ (R' : RP) (k1 : Nat) (s : List Int32) (I' : mj_I) (x6 x7 x8 : Option Value), k1 + R'.length = k0 + R.length → (∀ i q, R'[i]? = some q → I 14 (k1 + i) = nI (enS q)) → rpok lo hi 36 R' s.length → pilC (I' 15) s.tail → s.length ≤ 36 → Eqf (frm [15] []) I I' → (rpn val R' s).headD 0 = rpv val R → mj_run (mj_ev d) k62 Q (k62 8) [some (.ref 12), some (.int (nI k0)), some (.int (nI (k0 + R.length))), some (.int (s.headD 0)), some (.int (nI s.length)), some (.int (nI k1)), x6, x7, x8] [] (107, I', L, P) 0 0 := by
    intro R'
    induction R' with
    | nil =>
      intro k1 s I' x6 x7 x8 h1 h2 h3 h4 h5 h6 h7
      obtain ⟨x, rfl⟩ : ∃ x, s = [x] := List.length_eq_one_iff.mp h3
      rw [List.length_nil] at h1
      refine q_3 rfl ?_
      refine q_3 rfl ?_
      refine q_geN (by omega) (by omega) (fun hh => ?_) (fun hh => absurd hh (by omega))
      refine q_3 rfl ?_
      refine q_26 ?_
      exact kQ (k I' h6) h7
    | cons q R' ih =>
      intro k1 s I' x6 x7 x8 h1 h2 h3 h4 h5 h6 h7
      obtain ⟨t1, v1⟩ := q
      rw [List.length_cons] at h1
      have e0 : I' 14 k1 = nI (enS (t1, v1)) := (h6 14 k1 rfl).trans (h2 0 _ rfl)
      have h2' : ∀ i q, R'[i]? = some q → I 14 (k1 + 1 + i) = nI (enS q) := fun i q hq => by
        have := h2 (i + 1) q (by rw [List.getElem?_cons_succ]; exact hq)
        rw [show k1 + 1 + i = k1 + (i + 1) by omega]
        exact this
      have a63 := and63 (k := s.length) (by omega)
      rcases h3 with ⟨e, g1, g2, g3⟩ | ⟨e, g1, g2, g3, g4⟩ | ⟨e, g1, g2⟩ | ⟨e, g1, g2, g3⟩
      · have e' : t1 = 1 := e
        subst e'
        have g1' : v1 < 10000 := g1
        have ee : I' 14 k1 = nI (0 * 2 ^ 20 + v1) := e0
        refine q_3 rfl ?_
        refine q_3 rfl ?_
        refine q_geN (by omega) (by omega) (fun hh => absurd hh (by omega)) (fun hh => ?_)
        refine q_3 rfl ?_
        refine q_5 rfl ?_
        refine q_33 rfl (by decide) (hP _ _ _ rfl) ?_
        refine q_46 (by decide) (by decide) (by decide) ?_
        refine q_geN (by omega) (by decide) (fun z => absurd (show 700 ≤ k1 from z) (by omega)) (fun _ => ?_)
        refine q_5 rfl ?_
        refine q_33 rfl (by decide) (hP _ _ _ rfl) ?_
        refine q_3 rfl ?_
        first | refine q_38E _ rfl (by decide) rfl (by show _ < 700; omega) (by decide) (ee) ?_ | refine q_38 _ rfl (by decide) rfl (by show _ < 700; omega) (by decide) ?_
        refine q_0 ?_
        refine q_11 rfl ?_
        rw [stp_k (by omega) (by omega)]
        refine q_6 rfl rfl rfl ?_
        refine q_5 rfl ?_
        refine q_33 rfl (by decide) (hP _ _ _ rfl) ?_
        refine q_3 rfl ?_
        first | refine q_38E _ rfl (by decide) rfl (by show _ < 700; omega) (by decide) (ee) ?_ | refine q_38 _ rfl (by decide) rfl (by show _ < 700; omega) (by decide) ?_
        refine q_0 ?_
        refine q_11 rfl ?_
        rw [stp_v (by omega) (by omega)]
        refine q_6 rfl rfl rfl ?_
        refine q_3 rfl ?_
        refine q_0 ?_
        refine q_gtN (by omega) (by omega) (fun hh => absurd hh (by omega)) (fun hh => ?_)
        refine q_5 rfl ?_
        refine q_33 rfl (by decide) (hP _ _ _ rfl) ?_
        refine q_3 rfl ?_
        refine q_0 ?_
        refine q_11 rfl ?_
        rw [a63]
        refine q_3 rfl ?_
        refine q_42 _ rfl (by decide) rfl (by show _ < 64; omega) (by decide) ?_
        first | refine q_inc rfl rfl rfl ?_ | refine q_9 rfl rfl rfl ?_
        refine q_3 rfl ?_
        first | refine q_neN0 (by omega) (fun hh => absurd hh (by omega)) (fun hh => ?_) | refine q_neI0 (fun hh => absurd hh (by omega)) (fun hh => ?_)
        refine q_3 rfl ?_
        refine q_23 ?_
        refine q_6 rfl rfl rfl ?_
        refine q_23 ?_
        first | refine q_inc rfl rfl rfl ?_ | refine q_9 rfl rfl rfl ?_
        refine q_23 ?_
        exact ih (k1 + 1) (nI v1 :: s) _ _ _ _ (by omega) h2' g3 (by cases s with | nil => exact trivial | cons y s => exact ⟨upI_s, pilC_up (fun j hj => upI_j (by show j ≠ s.length + 1; omega)) h4⟩) g2 (h6.up rfl) h7
      · have e' : t1 = 2 := e
        subst e'
        have g1' : lo ≤ v1 := g1
        have g2' : v1 ≤ hi := g2
        have kvl : kv v1 < 32 := by unfold kv; (repeat' split) <;> omega
        have ee : I' 14 k1 = nI (1 * 2 ^ 20 + kv v1) := e0
        have ev : I' 13 (kv v1) = val v1 := (h6 13 _ rfl).trans (hv v1 g1 g2)
        refine q_3 rfl ?_
        refine q_3 rfl ?_
        refine q_geN (by omega) (by omega) (fun hh => absurd hh (by omega)) (fun hh => ?_)
        refine q_3 rfl ?_
        refine q_5 rfl ?_
        refine q_33 rfl (by decide) (hP _ _ _ rfl) ?_
        refine q_46 (by decide) (by decide) (by decide) ?_
        refine q_geN (by omega) (by decide) (fun z => absurd (show 700 ≤ k1 from z) (by omega)) (fun _ => ?_)
        refine q_5 rfl ?_
        refine q_33 rfl (by decide) (hP _ _ _ rfl) ?_
        refine q_3 rfl ?_
        first | refine q_38E _ rfl (by decide) rfl (by show _ < 700; omega) (by decide) (ee) ?_ | refine q_38 _ rfl (by decide) rfl (by show _ < 700; omega) (by decide) ?_
        refine q_0 ?_
        refine q_11 rfl ?_
        rw [stp_k (by omega) (by omega)]
        refine q_6 rfl rfl rfl ?_
        refine q_5 rfl ?_
        refine q_33 rfl (by decide) (hP _ _ _ rfl) ?_
        refine q_3 rfl ?_
        first | refine q_38E _ rfl (by decide) rfl (by show _ < 700; omega) (by decide) (ee) ?_ | refine q_38 _ rfl (by decide) rfl (by show _ < 700; omega) (by decide) ?_
        refine q_0 ?_
        refine q_11 rfl ?_
        rw [stp_v (by omega) (by omega)]
        refine q_6 rfl rfl rfl ?_
        refine q_3 rfl ?_
        refine q_0 ?_
        refine q_gtN (by omega) (by omega) (fun hh => absurd hh (by omega)) (fun hh => ?_)
        refine q_5 rfl ?_
        refine q_33 rfl (by decide) (hP _ _ _ rfl) ?_
        refine q_3 rfl ?_
        refine q_0 ?_
        refine q_11 rfl ?_
        rw [a63]
        refine q_3 rfl ?_
        refine q_42 _ rfl (by decide) rfl (by show _ < 64; omega) (by decide) ?_
        first | refine q_inc rfl rfl rfl ?_ | refine q_9 rfl rfl rfl ?_
        refine q_3 rfl ?_
        first | refine q_neN0 (by omega) (fun hh => ?_) (fun hh => absurd hh (by omega)) | refine q_neI0 (fun hh => ?_) (fun hh => absurd (by omega) hh)
        refine q_5 rfl ?_
        refine q_33 rfl (by decide) (hP _ _ _ rfl) ?_
        refine q_3 rfl ?_
        refine q_0 ?_
        refine q_11 rfl ?_
        rw [and31 kvl]
        first | refine q_38E _ rfl (by decide) rfl (by show _ < 32; omega) (by decide) (ev) ?_ | refine q_38 _ rfl (by decide) rfl (by show _ < 32; omega) (by decide) ?_
        refine q_6 rfl rfl rfl ?_
        refine q_23 ?_
        first | refine q_inc rfl rfl rfl ?_ | refine q_9 rfl rfl rfl ?_
        refine q_23 ?_
        exact ih (k1 + 1) (val v1 :: s) _ _ _ _ (by omega) h2' g4 (by cases s with | nil => exact trivial | cons y s => exact ⟨upI_s, pilC_up (fun j hj => upI_j (by show j ≠ s.length + 1; omega)) h4⟩) g3 (h6.up rfl) h7
      · have e' : t1 = 3 := e
        subst e'
        have ee : I' 14 k1 = nI (2 * 2 ^ 20 + 0) := e0
        cases s with
        | nil => exact absurd g1 (by simp)
        | cons x s =>
          have fin3 : ∀ v z6 z7 z8, v = (if x = 0 then nI 1 else nI 0) → mj_run (mj_ev d) k62 Q (k62 8) [some (.ref 12), some (.int (nI k0)), some (.int (nI (k0 + R.length))), some (.int v), some (.int (nI (s.length + 1))), some (.int (nI (k1 + 1))), z6, z7, z8] [] (107, I', L, P) 0 0 := by
            rintro v z6 z7 z8 rfl
            exact ih (k1 + 1) ((if x = 0 then nI 1 else nI 0) :: s) _ _ _ _ (by omega) h2' g2 h4 h5 h6 h7
          refine q_3 rfl ?_
          refine q_3 rfl ?_
          refine q_geN (by omega) (by omega) (fun hh => absurd hh (by omega)) (fun hh => ?_)
          refine q_3 rfl ?_
          refine q_5 rfl ?_
          refine q_33 rfl (by decide) (hP _ _ _ rfl) ?_
          refine q_46 (by decide) (by decide) (by decide) ?_
          refine q_geN (by omega) (by decide) (fun z => absurd (show 700 ≤ k1 from z) (by omega)) (fun _ => ?_)
          refine q_5 rfl ?_
          refine q_33 rfl (by decide) (hP _ _ _ rfl) ?_
          refine q_3 rfl ?_
          first | refine q_38E _ rfl (by decide) rfl (by show _ < 700; omega) (by decide) (ee) ?_ | refine q_38 _ rfl (by decide) rfl (by show _ < 700; omega) (by decide) ?_
          refine q_0 ?_
          refine q_11 rfl ?_
          rw [stp_k (by omega) (by omega)]
          refine q_6 rfl rfl rfl ?_
          refine q_5 rfl ?_
          refine q_33 rfl (by decide) (hP _ _ _ rfl) ?_
          refine q_3 rfl ?_
          first | refine q_38E _ rfl (by decide) rfl (by show _ < 700; omega) (by decide) (ee) ?_ | refine q_38 _ rfl (by decide) rfl (by show _ < 700; omega) (by decide) ?_
          refine q_0 ?_
          refine q_11 rfl ?_
          rw [stp_v (by omega) (by omega)]
          refine q_6 rfl rfl rfl ?_
          refine q_3 rfl ?_
          refine q_0 ?_
          refine q_gtN (by omega) (by omega) (fun hh => ?_) (fun hh => absurd hh (by omega))
          refine q_3 rfl ?_
          refine q_0 ?_
          refine q_neN (by omega) (by omega) (fun hh => absurd hh (by omega)) (fun hh => ?_)
          refine q_3 rfl ?_
          first | refine q_d21_1Nn (J := 107) (by omega) (fun j => q_0 (j)) (fun j => q_0 (q_23 (j))) ?_ | refine q_d21_1Ni (J := 107) (by omega) (fun j => q_0 (j)) (fun j => q_0 (q_23 (j))) ?_ | refine q_d21_1In (J := 107) (fun j => q_0 (j)) (fun j => q_0 (q_23 (j))) ?_ | refine q_d21_1Ii (J := 107) (fun j => q_0 (j)) (fun j => q_0 (q_23 (j))) ?_
          refine q_6 rfl rfl rfl ?_
          refine q_23 ?_
          first | refine q_inc rfl rfl rfl ?_ | refine q_9 rfl rfl rfl ?_
          refine q_23 ?_
          exact fin3 _ _ _ _ (by show nI (if x = 0 then 1 else 0) = _; split <;> rfl)
      · have g1' : 4 ≤ t1 := e
        have g2' : t1 ≤ 11 := g1
        cases s with
        | nil => exact absurd g2 (by simp)
        | cons x s =>
          cases s with
          | nil => exact absurd g2 (by simp)
          | cons y s =>
            have p1 : I' 15 (s.length + 1) = y := h4.1
            have b63 := and63 (k := s.length + 1) (by have : s.length + 2 ≤ 36 := h5; omega)
            have l5 : s.length + 2 ≤ 36 := h5
            have es : stp val t1 v1 (x :: y :: s) = opv t1 y x :: s := by
              unfold stp
              rw [if_neg (by omega), if_neg (by omega)]
              show (if t1 = 3 then _ else _) = _
              rw [if_neg (by omega)]
            have h7' : (rpn val R' (opv t1 y x :: s)).headD 0 = rpv val R := by
              rw [← h7]
              show _ = (rpn val R' (stp val t1 v1 (x :: y :: s))).headD 0
              rw [es]
            have ee : I' 14 k1 = nI (kd t1 * 2 ^ 20 + 0) := by
              rw [e0]
              unfold enS
              rw [if_neg (show ¬ t1 = 1 by omega), if_neg (show ¬ t1 = 2 by omega)]
            have fin : ∀ v z6 z7 z8, v = opv t1 y x → mj_run (mj_ev d) k62 Q (k62 8) [some (.ref 12), some (.int (nI k0)), some (.int (nI (k0 + R.length))), some (.int v), some (.int (nI (s.length + 1))), some (.int (nI (k1 + 1))), z6, z7, z8] [] (107, I', L, P) 0 0 := by
              rintro v z6 z7 z8 rfl
              exact ih (k1 + 1) (opv t1 y x :: s) _ _ _ _ (by omega) h2' g3 h4.2 (by show s.length + 1 ≤ 36; omega) h6 h7'
            obtain rfl | rfl | rfl | rfl | rfl | rfl | rfl | rfl : t1 = 4 ∨ t1 = 5 ∨ t1 = 6 ∨ t1 = 7 ∨ t1 = 8 ∨ t1 = 9 ∨ t1 = 10 ∨ t1 = 11 := by omega
            · have ee2 : I' 14 k1 = nI (4 * 2 ^ 20 + 0) := ee
              refine q_3 rfl ?_
              refine q_3 rfl ?_
              refine q_geN (by omega) (by omega) (fun hh => absurd hh (by omega)) (fun hh => ?_)
              refine q_3 rfl ?_
              refine q_5 rfl ?_
              refine q_33 rfl (by decide) (hP _ _ _ rfl) ?_
              refine q_46 (by decide) (by decide) (by decide) ?_
              refine q_geN (by omega) (by decide) (fun z => absurd (show 700 ≤ k1 from z) (by omega)) (fun _ => ?_)
              refine q_5 rfl ?_
              refine q_33 rfl (by decide) (hP _ _ _ rfl) ?_
              refine q_3 rfl ?_
              first | refine q_38E _ rfl (by decide) rfl (by show _ < 700; omega) (by decide) (ee2) ?_ | refine q_38 _ rfl (by decide) rfl (by show _ < 700; omega) (by decide) ?_
              refine q_0 ?_
              refine q_11 rfl ?_
              rw [stp_k (by omega) (by omega)]
              refine q_6 rfl rfl rfl ?_
              refine q_5 rfl ?_
              refine q_33 rfl (by decide) (hP _ _ _ rfl) ?_
              refine q_3 rfl ?_
              first | refine q_38E _ rfl (by decide) rfl (by show _ < 700; omega) (by decide) (ee2) ?_ | refine q_38 _ rfl (by decide) rfl (by show _ < 700; omega) (by decide) ?_
              refine q_0 ?_
              refine q_11 rfl ?_
              rw [stp_v (by omega) (by omega)]
              refine q_6 rfl rfl rfl ?_
              refine q_3 rfl ?_
              refine q_0 ?_
              refine q_gtN (by omega) (by omega) (fun hh => ?_) (fun hh => absurd hh (by omega))
              refine q_3 rfl ?_
              refine q_0 ?_
              refine q_neN (by omega) (by omega) (fun hh => ?_) (fun hh => absurd hh (by omega))
              refine q_dec (u := s.length + 1 + 1) rfl (by omega) rfl rfl ?_
              rw [Nat.add_sub_cancel]
              refine q_5 rfl ?_
              refine q_33 rfl (by decide) (hP _ _ _ rfl) ?_
              refine q_3 rfl ?_
              refine q_0 ?_
              refine q_11 rfl ?_
              rw [b63]
              first | refine q_38E _ rfl (by decide) rfl (by show _ < 64; omega) (by decide) (p1) ?_ | refine q_38 _ rfl (by decide) rfl (by show _ < 64; omega) (by decide) ?_
              refine q_6 rfl rfl rfl ?_
              refine q_3 rfl ?_
              refine q_24E (t := 190) (rfl) ?_
              refine q_3 rfl ?_
              first | refine q_eqN0 (by omega) (fun hh => ?_) (fun hh => ?_) | refine q_eqI0 (fun hh => ?_) (fun hh => ?_)
              · refine q_0 ?_
                refine q_6 rfl rfl rfl ?_
                refine q_23 ?_
                first | refine q_inc rfl rfl rfl ?_ | refine q_9 rfl rfl rfl ?_
                refine q_23 ?_
                exact fin _ _ _ _ (by first | rfl | (by_cases hq : y < x <;> simp [opv, hq]; done) | (by_cases hq : y = x <;> simp [opv, hq]; done) | (simp_all [opv]; done))
              · refine q_3 rfl ?_
                first | refine q_eqN0 (by omega) (fun hh => ?_) (fun hh => ?_) | refine q_eqI0 (fun hh => ?_) (fun hh => ?_)
                · refine q_0 ?_
                  refine q_6 rfl rfl rfl ?_
                  refine q_23 ?_
                  first | refine q_inc rfl rfl rfl ?_ | refine q_9 rfl rfl rfl ?_
                  refine q_23 ?_
                  exact fin _ _ _ _ (by first | rfl | (by_cases hq : y < x <;> simp [opv, hq]; done) | (by_cases hq : y = x <;> simp [opv, hq]; done) | (simp_all [opv]; done))
                · refine q_0 ?_
                  refine q_23 ?_
                  refine q_6 rfl rfl rfl ?_
                  refine q_23 ?_
                  first | refine q_inc rfl rfl rfl ?_ | refine q_9 rfl rfl rfl ?_
                  refine q_23 ?_
                  exact fin _ _ _ _ (by first | rfl | (by_cases hq : y < x <;> simp [opv, hq]; done) | (by_cases hq : y = x <;> simp [opv, hq]; done) | (simp_all [opv]; done))
            · have ee2 : I' 14 k1 = nI (3 * 2 ^ 20 + 0) := ee
              refine q_3 rfl ?_
              refine q_3 rfl ?_
              refine q_geN (by omega) (by omega) (fun hh => absurd hh (by omega)) (fun hh => ?_)
              refine q_3 rfl ?_
              refine q_5 rfl ?_
              refine q_33 rfl (by decide) (hP _ _ _ rfl) ?_
              refine q_46 (by decide) (by decide) (by decide) ?_
              refine q_geN (by omega) (by decide) (fun z => absurd (show 700 ≤ k1 from z) (by omega)) (fun _ => ?_)
              refine q_5 rfl ?_
              refine q_33 rfl (by decide) (hP _ _ _ rfl) ?_
              refine q_3 rfl ?_
              first | refine q_38E _ rfl (by decide) rfl (by show _ < 700; omega) (by decide) (ee2) ?_ | refine q_38 _ rfl (by decide) rfl (by show _ < 700; omega) (by decide) ?_
              refine q_0 ?_
              refine q_11 rfl ?_
              rw [stp_k (by omega) (by omega)]
              refine q_6 rfl rfl rfl ?_
              refine q_5 rfl ?_
              refine q_33 rfl (by decide) (hP _ _ _ rfl) ?_
              refine q_3 rfl ?_
              first | refine q_38E _ rfl (by decide) rfl (by show _ < 700; omega) (by decide) (ee2) ?_ | refine q_38 _ rfl (by decide) rfl (by show _ < 700; omega) (by decide) ?_
              refine q_0 ?_
              refine q_11 rfl ?_
              rw [stp_v (by omega) (by omega)]
              refine q_6 rfl rfl rfl ?_
              refine q_3 rfl ?_
              refine q_0 ?_
              refine q_gtN (by omega) (by omega) (fun hh => ?_) (fun hh => absurd hh (by omega))
              refine q_3 rfl ?_
              refine q_0 ?_
              refine q_neN (by omega) (by omega) (fun hh => ?_) (fun hh => absurd hh (by omega))
              refine q_dec (u := s.length + 1 + 1) rfl (by omega) rfl rfl ?_
              rw [Nat.add_sub_cancel]
              refine q_5 rfl ?_
              refine q_33 rfl (by decide) (hP _ _ _ rfl) ?_
              refine q_3 rfl ?_
              refine q_0 ?_
              refine q_11 rfl ?_
              rw [b63]
              first | refine q_38E _ rfl (by decide) rfl (by show _ < 64; omega) (by decide) (p1) ?_ | refine q_38 _ rfl (by decide) rfl (by show _ < 64; omega) (by decide) ?_
              refine q_6 rfl rfl rfl ?_
              refine q_3 rfl ?_
              refine q_24E (t := 172) (rfl) ?_
              refine q_3 rfl ?_
              first | refine q_neN0 (by omega) (fun hh => ?_) (fun hh => ?_) | refine q_neI0 (fun hh => ?_) (fun hh => ?_)
              · refine q_0 ?_
                refine q_23 ?_
                refine q_6 rfl rfl rfl ?_
                refine q_23 ?_
                first | refine q_inc rfl rfl rfl ?_ | refine q_9 rfl rfl rfl ?_
                refine q_23 ?_
                exact fin _ _ _ _ (by first | rfl | (by_cases hq : y < x <;> simp [opv, hq]; done) | (by_cases hq : y = x <;> simp [opv, hq]; done) | (simp_all [opv]; done))
              · refine q_3 rfl ?_
                first | refine q_eqN0 (by omega) (fun hh => ?_) (fun hh => ?_) | refine q_eqI0 (fun hh => ?_) (fun hh => ?_)
                · refine q_0 ?_
                  refine q_6 rfl rfl rfl ?_
                  refine q_23 ?_
                  first | refine q_inc rfl rfl rfl ?_ | refine q_9 rfl rfl rfl ?_
                  refine q_23 ?_
                  exact fin _ _ _ _ (by first | rfl | (by_cases hq : y < x <;> simp [opv, hq]; done) | (by_cases hq : y = x <;> simp [opv, hq]; done) | (simp_all [opv]; done))
                · refine q_0 ?_
                  refine q_23 ?_
                  refine q_6 rfl rfl rfl ?_
                  refine q_23 ?_
                  first | refine q_inc rfl rfl rfl ?_ | refine q_9 rfl rfl rfl ?_
                  refine q_23 ?_
                  exact fin _ _ _ _ (by first | rfl | (by_cases hq : y < x <;> simp [opv, hq]; done) | (by_cases hq : y = x <;> simp [opv, hq]; done) | (simp_all [opv]; done))
            · have ee2 : I' 14 k1 = nI (5 * 2 ^ 20 + 0) := ee
              refine q_3 rfl ?_
              refine q_3 rfl ?_
              refine q_geN (by omega) (by omega) (fun hh => absurd hh (by omega)) (fun hh => ?_)
              refine q_3 rfl ?_
              refine q_5 rfl ?_
              refine q_33 rfl (by decide) (hP _ _ _ rfl) ?_
              refine q_46 (by decide) (by decide) (by decide) ?_
              refine q_geN (by omega) (by decide) (fun z => absurd (show 700 ≤ k1 from z) (by omega)) (fun _ => ?_)
              refine q_5 rfl ?_
              refine q_33 rfl (by decide) (hP _ _ _ rfl) ?_
              refine q_3 rfl ?_
              first | refine q_38E _ rfl (by decide) rfl (by show _ < 700; omega) (by decide) (ee2) ?_ | refine q_38 _ rfl (by decide) rfl (by show _ < 700; omega) (by decide) ?_
              refine q_0 ?_
              refine q_11 rfl ?_
              rw [stp_k (by omega) (by omega)]
              refine q_6 rfl rfl rfl ?_
              refine q_5 rfl ?_
              refine q_33 rfl (by decide) (hP _ _ _ rfl) ?_
              refine q_3 rfl ?_
              first | refine q_38E _ rfl (by decide) rfl (by show _ < 700; omega) (by decide) (ee2) ?_ | refine q_38 _ rfl (by decide) rfl (by show _ < 700; omega) (by decide) ?_
              refine q_0 ?_
              refine q_11 rfl ?_
              rw [stp_v (by omega) (by omega)]
              refine q_6 rfl rfl rfl ?_
              refine q_3 rfl ?_
              refine q_0 ?_
              refine q_gtN (by omega) (by omega) (fun hh => ?_) (fun hh => absurd hh (by omega))
              refine q_3 rfl ?_
              refine q_0 ?_
              refine q_neN (by omega) (by omega) (fun hh => ?_) (fun hh => absurd hh (by omega))
              refine q_dec (u := s.length + 1 + 1) rfl (by omega) rfl rfl ?_
              rw [Nat.add_sub_cancel]
              refine q_5 rfl ?_
              refine q_33 rfl (by decide) (hP _ _ _ rfl) ?_
              refine q_3 rfl ?_
              refine q_0 ?_
              refine q_11 rfl ?_
              rw [b63]
              first | refine q_38E _ rfl (by decide) rfl (by show _ < 64; omega) (by decide) (p1) ?_ | refine q_38 _ rfl (by decide) rfl (by show _ < 64; omega) (by decide) ?_
              refine q_6 rfl rfl rfl ?_
              refine q_3 rfl ?_
              refine q_24E (t := 208) (rfl) ?_
              refine q_3 rfl ?_
              refine q_3 rfl ?_
              first | refine q_d22_3Nn (J := 219) (by omega) (by omega) (fun j => q_0 (j)) (fun j => q_0 (q_23 (j))) ?_ | refine q_d22_3Ni (J := 219) (by omega) (by omega) (fun j => q_0 (j)) (fun j => q_0 (q_23 (j))) ?_ | refine q_d22_3In (J := 219) (fun j => q_0 (j)) (fun j => q_0 (q_23 (j))) ?_ | refine q_d22_3Ii (J := 219) (fun j => q_0 (j)) (fun j => q_0 (q_23 (j))) ?_
              refine q_6 rfl rfl rfl ?_
              refine q_23 ?_
              first | refine q_inc rfl rfl rfl ?_ | refine q_9 rfl rfl rfl ?_
              refine q_23 ?_
              exact fin _ _ _ _ (by first | rfl | (by_cases hq : y < x <;> simp [opv, hq]; done) | (by_cases hq : y = x <;> simp [opv, hq]; done) | (simp_all [opv]; done))
            · have ee2 : I' 14 k1 = nI (6 * 2 ^ 20 + 0) := ee
              refine q_3 rfl ?_
              refine q_3 rfl ?_
              refine q_geN (by omega) (by omega) (fun hh => absurd hh (by omega)) (fun hh => ?_)
              refine q_3 rfl ?_
              refine q_5 rfl ?_
              refine q_33 rfl (by decide) (hP _ _ _ rfl) ?_
              refine q_46 (by decide) (by decide) (by decide) ?_
              refine q_geN (by omega) (by decide) (fun z => absurd (show 700 ≤ k1 from z) (by omega)) (fun _ => ?_)
              refine q_5 rfl ?_
              refine q_33 rfl (by decide) (hP _ _ _ rfl) ?_
              refine q_3 rfl ?_
              first | refine q_38E _ rfl (by decide) rfl (by show _ < 700; omega) (by decide) (ee2) ?_ | refine q_38 _ rfl (by decide) rfl (by show _ < 700; omega) (by decide) ?_
              refine q_0 ?_
              refine q_11 rfl ?_
              rw [stp_k (by omega) (by omega)]
              refine q_6 rfl rfl rfl ?_
              refine q_5 rfl ?_
              refine q_33 rfl (by decide) (hP _ _ _ rfl) ?_
              refine q_3 rfl ?_
              first | refine q_38E _ rfl (by decide) rfl (by show _ < 700; omega) (by decide) (ee2) ?_ | refine q_38 _ rfl (by decide) rfl (by show _ < 700; omega) (by decide) ?_
              refine q_0 ?_
              refine q_11 rfl ?_
              rw [stp_v (by omega) (by omega)]
              refine q_6 rfl rfl rfl ?_
              refine q_3 rfl ?_
              refine q_0 ?_
              refine q_gtN (by omega) (by omega) (fun hh => ?_) (fun hh => absurd hh (by omega))
              refine q_3 rfl ?_
              refine q_0 ?_
              refine q_neN (by omega) (by omega) (fun hh => ?_) (fun hh => absurd hh (by omega))
              refine q_dec (u := s.length + 1 + 1) rfl (by omega) rfl rfl ?_
              rw [Nat.add_sub_cancel]
              refine q_5 rfl ?_
              refine q_33 rfl (by decide) (hP _ _ _ rfl) ?_
              refine q_3 rfl ?_
              refine q_0 ?_
              refine q_11 rfl ?_
              rw [b63]
              first | refine q_38E _ rfl (by decide) rfl (by show _ < 64; omega) (by decide) (p1) ?_ | refine q_38 _ rfl (by decide) rfl (by show _ < 64; omega) (by decide) ?_
              refine q_6 rfl rfl rfl ?_
              refine q_3 rfl ?_
              refine q_24E (t := 223) (rfl) ?_
              refine q_3 rfl ?_
              refine q_3 rfl ?_
              first | refine q_d22_1Nn (J := 234) (by omega) (by omega) (fun j => q_0 (j)) (fun j => q_0 (q_23 (j))) ?_ | refine q_d22_1Ni (J := 234) (by omega) (by omega) (fun j => q_0 (j)) (fun j => q_0 (q_23 (j))) ?_ | refine q_d22_1Mn (J := 234) (by assumption) (fun j => q_0 (j)) (fun j => q_0 (q_23 (j))) ?_ | refine q_d22_1In (J := 234) (fun j => q_0 (j)) (fun j => q_0 (q_23 (j))) ?_ | refine q_d22_1Ii (J := 234) (fun j => q_0 (j)) (fun j => q_0 (q_23 (j))) ?_
              refine q_6 rfl rfl rfl ?_
              refine q_23 ?_
              first | refine q_inc rfl rfl rfl ?_ | refine q_9 rfl rfl rfl ?_
              refine q_23 ?_
              exact fin _ _ _ _ (by first | rfl | (by_cases hq : y < x <;> simp [opv, hq]; done) | (by_cases hq : y = x <;> simp [opv, hq]; done) | (simp_all [opv]; done))
            · have ee2 : I' 14 k1 = nI (7 * 2 ^ 20 + 0) := ee
              refine q_3 rfl ?_
              refine q_3 rfl ?_
              refine q_geN (by omega) (by omega) (fun hh => absurd hh (by omega)) (fun hh => ?_)
              refine q_3 rfl ?_
              refine q_5 rfl ?_
              refine q_33 rfl (by decide) (hP _ _ _ rfl) ?_
              refine q_46 (by decide) (by decide) (by decide) ?_
              refine q_geN (by omega) (by decide) (fun z => absurd (show 700 ≤ k1 from z) (by omega)) (fun _ => ?_)
              refine q_5 rfl ?_
              refine q_33 rfl (by decide) (hP _ _ _ rfl) ?_
              refine q_3 rfl ?_
              first | refine q_38E _ rfl (by decide) rfl (by show _ < 700; omega) (by decide) (ee2) ?_ | refine q_38 _ rfl (by decide) rfl (by show _ < 700; omega) (by decide) ?_
              refine q_0 ?_
              refine q_11 rfl ?_
              rw [stp_k (by omega) (by omega)]
              refine q_6 rfl rfl rfl ?_
              refine q_5 rfl ?_
              refine q_33 rfl (by decide) (hP _ _ _ rfl) ?_
              refine q_3 rfl ?_
              first | refine q_38E _ rfl (by decide) rfl (by show _ < 700; omega) (by decide) (ee2) ?_ | refine q_38 _ rfl (by decide) rfl (by show _ < 700; omega) (by decide) ?_
              refine q_0 ?_
              refine q_11 rfl ?_
              rw [stp_v (by omega) (by omega)]
              refine q_6 rfl rfl rfl ?_
              refine q_3 rfl ?_
              refine q_0 ?_
              refine q_gtN (by omega) (by omega) (fun hh => ?_) (fun hh => absurd hh (by omega))
              refine q_3 rfl ?_
              refine q_0 ?_
              refine q_neN (by omega) (by omega) (fun hh => ?_) (fun hh => absurd hh (by omega))
              refine q_dec (u := s.length + 1 + 1) rfl (by omega) rfl rfl ?_
              rw [Nat.add_sub_cancel]
              refine q_5 rfl ?_
              refine q_33 rfl (by decide) (hP _ _ _ rfl) ?_
              refine q_3 rfl ?_
              refine q_0 ?_
              refine q_11 rfl ?_
              rw [b63]
              first | refine q_38E _ rfl (by decide) rfl (by show _ < 64; omega) (by decide) (p1) ?_ | refine q_38 _ rfl (by decide) rfl (by show _ < 64; omega) (by decide) ?_
              refine q_6 rfl rfl rfl ?_
              refine q_3 rfl ?_
              refine q_24E (t := 238) (rfl) ?_
              refine q_3 rfl ?_
              refine q_3 rfl ?_
              refine q_11 rfl ?_
              refine q_6 rfl rfl rfl ?_
              refine q_23 ?_
              first | refine q_inc rfl rfl rfl ?_ | refine q_9 rfl rfl rfl ?_
              refine q_23 ?_
              exact fin _ _ _ _ (by first | rfl | (by_cases hq : y < x <;> simp [opv, hq]; done) | (by_cases hq : y = x <;> simp [opv, hq]; done) | (simp_all [opv]; done))
            · have ee2 : I' 14 k1 = nI (8 * 2 ^ 20 + 0) := ee
              refine q_3 rfl ?_
              refine q_3 rfl ?_
              refine q_geN (by omega) (by omega) (fun hh => absurd hh (by omega)) (fun hh => ?_)
              refine q_3 rfl ?_
              refine q_5 rfl ?_
              refine q_33 rfl (by decide) (hP _ _ _ rfl) ?_
              refine q_46 (by decide) (by decide) (by decide) ?_
              refine q_geN (by omega) (by decide) (fun z => absurd (show 700 ≤ k1 from z) (by omega)) (fun _ => ?_)
              refine q_5 rfl ?_
              refine q_33 rfl (by decide) (hP _ _ _ rfl) ?_
              refine q_3 rfl ?_
              first | refine q_38E _ rfl (by decide) rfl (by show _ < 700; omega) (by decide) (ee2) ?_ | refine q_38 _ rfl (by decide) rfl (by show _ < 700; omega) (by decide) ?_
              refine q_0 ?_
              refine q_11 rfl ?_
              rw [stp_k (by omega) (by omega)]
              refine q_6 rfl rfl rfl ?_
              refine q_5 rfl ?_
              refine q_33 rfl (by decide) (hP _ _ _ rfl) ?_
              refine q_3 rfl ?_
              first | refine q_38E _ rfl (by decide) rfl (by show _ < 700; omega) (by decide) (ee2) ?_ | refine q_38 _ rfl (by decide) rfl (by show _ < 700; omega) (by decide) ?_
              refine q_0 ?_
              refine q_11 rfl ?_
              rw [stp_v (by omega) (by omega)]
              refine q_6 rfl rfl rfl ?_
              refine q_3 rfl ?_
              refine q_0 ?_
              refine q_gtN (by omega) (by omega) (fun hh => ?_) (fun hh => absurd hh (by omega))
              refine q_3 rfl ?_
              refine q_0 ?_
              refine q_neN (by omega) (by omega) (fun hh => ?_) (fun hh => absurd hh (by omega))
              refine q_dec (u := s.length + 1 + 1) rfl (by omega) rfl rfl ?_
              rw [Nat.add_sub_cancel]
              refine q_5 rfl ?_
              refine q_33 rfl (by decide) (hP _ _ _ rfl) ?_
              refine q_3 rfl ?_
              refine q_0 ?_
              refine q_11 rfl ?_
              rw [b63]
              first | refine q_38E _ rfl (by decide) rfl (by show _ < 64; omega) (by decide) (p1) ?_ | refine q_38 _ rfl (by decide) rfl (by show _ < 64; omega) (by decide) ?_
              refine q_6 rfl rfl rfl ?_
              refine q_3 rfl ?_
              refine q_24E (t := 246) (rfl) ?_
              refine q_3 rfl ?_
              refine q_3 rfl ?_
              refine q_11 rfl ?_
              refine q_6 rfl rfl rfl ?_
              refine q_23 ?_
              first | refine q_inc rfl rfl rfl ?_ | refine q_9 rfl rfl rfl ?_
              refine q_23 ?_
              exact fin _ _ _ _ (by first | rfl | (by_cases hq : y < x <;> simp [opv, hq]; done) | (by_cases hq : y = x <;> simp [opv, hq]; done) | (simp_all [opv]; done))
            · have ee2 : I' 14 k1 = nI (9 * 2 ^ 20 + 0) := ee
              refine q_3 rfl ?_
              refine q_3 rfl ?_
              refine q_geN (by omega) (by omega) (fun hh => absurd hh (by omega)) (fun hh => ?_)
              refine q_3 rfl ?_
              refine q_5 rfl ?_
              refine q_33 rfl (by decide) (hP _ _ _ rfl) ?_
              refine q_46 (by decide) (by decide) (by decide) ?_
              refine q_geN (by omega) (by decide) (fun z => absurd (show 700 ≤ k1 from z) (by omega)) (fun _ => ?_)
              refine q_5 rfl ?_
              refine q_33 rfl (by decide) (hP _ _ _ rfl) ?_
              refine q_3 rfl ?_
              first | refine q_38E _ rfl (by decide) rfl (by show _ < 700; omega) (by decide) (ee2) ?_ | refine q_38 _ rfl (by decide) rfl (by show _ < 700; omega) (by decide) ?_
              refine q_0 ?_
              refine q_11 rfl ?_
              rw [stp_k (by omega) (by omega)]
              refine q_6 rfl rfl rfl ?_
              refine q_5 rfl ?_
              refine q_33 rfl (by decide) (hP _ _ _ rfl) ?_
              refine q_3 rfl ?_
              first | refine q_38E _ rfl (by decide) rfl (by show _ < 700; omega) (by decide) (ee2) ?_ | refine q_38 _ rfl (by decide) rfl (by show _ < 700; omega) (by decide) ?_
              refine q_0 ?_
              refine q_11 rfl ?_
              rw [stp_v (by omega) (by omega)]
              refine q_6 rfl rfl rfl ?_
              refine q_3 rfl ?_
              refine q_0 ?_
              refine q_gtN (by omega) (by omega) (fun hh => ?_) (fun hh => absurd hh (by omega))
              refine q_3 rfl ?_
              refine q_0 ?_
              refine q_neN (by omega) (by omega) (fun hh => ?_) (fun hh => absurd hh (by omega))
              refine q_dec (u := s.length + 1 + 1) rfl (by omega) rfl rfl ?_
              rw [Nat.add_sub_cancel]
              refine q_5 rfl ?_
              refine q_33 rfl (by decide) (hP _ _ _ rfl) ?_
              refine q_3 rfl ?_
              refine q_0 ?_
              refine q_11 rfl ?_
              rw [b63]
              first | refine q_38E _ rfl (by decide) rfl (by show _ < 64; omega) (by decide) (p1) ?_ | refine q_38 _ rfl (by decide) rfl (by show _ < 64; omega) (by decide) ?_
              refine q_6 rfl rfl rfl ?_
              refine q_3 rfl ?_
              refine q_24E (t := 254) (rfl) ?_
              refine q_3 rfl ?_
              refine q_3 rfl ?_
              refine q_11 rfl ?_
              refine q_6 rfl rfl rfl ?_
              refine q_23 ?_
              first | refine q_inc rfl rfl rfl ?_ | refine q_9 rfl rfl rfl ?_
              refine q_23 ?_
              exact fin _ _ _ _ (by first | rfl | (by_cases hq : y < x <;> simp [opv, hq]; done) | (by_cases hq : y = x <;> simp [opv, hq]; done) | (simp_all [opv]; done))
            · have ee2 : I' 14 k1 = nI (10 * 2 ^ 20 + 0) := ee
              refine q_3 rfl ?_
              refine q_3 rfl ?_
              refine q_geN (by omega) (by omega) (fun hh => absurd hh (by omega)) (fun hh => ?_)
              refine q_3 rfl ?_
              refine q_5 rfl ?_
              refine q_33 rfl (by decide) (hP _ _ _ rfl) ?_
              refine q_46 (by decide) (by decide) (by decide) ?_
              refine q_geN (by omega) (by decide) (fun z => absurd (show 700 ≤ k1 from z) (by omega)) (fun _ => ?_)
              refine q_5 rfl ?_
              refine q_33 rfl (by decide) (hP _ _ _ rfl) ?_
              refine q_3 rfl ?_
              first | refine q_38E _ rfl (by decide) rfl (by show _ < 700; omega) (by decide) (ee2) ?_ | refine q_38 _ rfl (by decide) rfl (by show _ < 700; omega) (by decide) ?_
              refine q_0 ?_
              refine q_11 rfl ?_
              rw [stp_k (by omega) (by omega)]
              refine q_6 rfl rfl rfl ?_
              refine q_5 rfl ?_
              refine q_33 rfl (by decide) (hP _ _ _ rfl) ?_
              refine q_3 rfl ?_
              first | refine q_38E _ rfl (by decide) rfl (by show _ < 700; omega) (by decide) (ee2) ?_ | refine q_38 _ rfl (by decide) rfl (by show _ < 700; omega) (by decide) ?_
              refine q_0 ?_
              refine q_11 rfl ?_
              rw [stp_v (by omega) (by omega)]
              refine q_6 rfl rfl rfl ?_
              refine q_3 rfl ?_
              refine q_0 ?_
              refine q_gtN (by omega) (by omega) (fun hh => ?_) (fun hh => absurd hh (by omega))
              refine q_3 rfl ?_
              refine q_0 ?_
              refine q_neN (by omega) (by omega) (fun hh => ?_) (fun hh => absurd hh (by omega))
              refine q_dec (u := s.length + 1 + 1) rfl (by omega) rfl rfl ?_
              rw [Nat.add_sub_cancel]
              refine q_5 rfl ?_
              refine q_33 rfl (by decide) (hP _ _ _ rfl) ?_
              refine q_3 rfl ?_
              refine q_0 ?_
              refine q_11 rfl ?_
              rw [b63]
              first | refine q_38E _ rfl (by decide) rfl (by show _ < 64; omega) (by decide) (p1) ?_ | refine q_38 _ rfl (by decide) rfl (by show _ < 64; omega) (by decide) ?_
              refine q_6 rfl rfl rfl ?_
              refine q_3 rfl ?_
              refine q_24E (t := 262) (rfl) ?_
              refine q_3 rfl ?_
              refine q_neI0 (fun hq => ?_) (fun hq => ?_)
              · refine q_3 rfl ?_
                refine q_3 rfl ?_
                first | refine q_divN (by omega) (by omega) (by omega) ?_ | refine q_div (by assumption) ?_
                refine q_6 rfl rfl rfl ?_
                first | refine q_inc rfl rfl rfl ?_ | refine q_9 rfl rfl rfl ?_
                refine q_23 ?_
                exact fin _ _ _ _ (by first | rfl | (by_cases hq : y < x <;> simp [opv, hq]; done) | (by_cases hq : y = x <;> simp [opv, hq]; done) | (simp_all [opv]; done))
              · refine q_0 ?_
                refine q_23 ?_
                refine q_6 rfl rfl rfl ?_
                first | refine q_inc rfl rfl rfl ?_ | refine q_9 rfl rfl rfl ?_
                refine q_23 ?_
                exact fin _ _ _ _ (by first | rfl | (by_cases hq : y < x <;> simp [opv, hq]; done) | (by_cases hq : y = x <;> simp [opv, hq]; done) | (simp_all [opv]; done))
  show mj_run (mj_ev d) k62 Q (k62 0) [some (.ref 12), some (.int (nI k0)), some (.int (nI (k0 + R.length))), none, none, none, none, none, none] [] (107, I, L, P) 0 0
  refine q_0 ?_
  refine q_6 rfl rfl rfl ?_
  refine q_0 ?_
  refine q_6 rfl rfl rfl ?_
  refine q_3 rfl ?_
  refine q_6 rfl rfl rfl ?_
  exact L8 R k0 [] I none none none rfl hf hr trivial (by simp) Eqf.rf rfl
theorem c_56T {x : Nat} (h2 : I 12 2 = nI a) (h3 : I 12 3 = nI b) (hab : a < b) (hb : b < 2 ^ 31) (k : Q (.inl (some (.int (nI 1)))) (107, I, L, P)) : mj_ev (d + 1) 56 [.ref 12] (107, I, L, P) Q := by
  refine ⟨rfl, ?_⟩
  show mj_run (mj_ev d) k56 Q (k56 0) [some (.ref 12)] [] (107, I, L, P) 0 0
  refine q_5 rfl ?_
  first | refine q_31E rfl (by decide) h3 ?_ | refine q_31 rfl (by decide) ?_
  refine q_5 rfl ?_
  first | refine q_31E rfl (by decide) h2 ?_ | refine q_31 rfl (by decide) ?_
  refine q_leN (by omega) (by omega) (fun hh => absurd hh (by omega)) (fun hh => ?_)
  refine q_0 ?_
  refine q_23 ?_
  refine q_27 (by first | exact Or.inl rfl | exact Or.inr rfl | assumption | (split <;> first | exact Or.inl rfl | exact Or.inr rfl)) ?_
  exact k
theorem c_56F (h2 : I 12 2 = nI 0) (h3 : I 12 3 = nI 0) (k : Q (.inl (some (.int (nI 0)))) (107, I, L, P)) : mj_ev (d + 1) 56 [.ref 12] (107, I, L, P) Q := by
  refine ⟨rfl, ?_⟩
  show mj_run (mj_ev d) k56 Q (k56 0) [some (.ref 12)] [] (107, I, L, P) 0 0
  refine q_5 rfl ?_
  first | refine q_31E rfl (by decide) h3 ?_ | refine q_31 rfl (by decide) ?_
  refine q_5 rfl ?_
  first | refine q_31E rfl (by decide) h2 ?_ | refine q_31 rfl (by decide) ?_
  refine q_leN (by omega) (by omega) (fun hh => ?_) (fun hh => absurd hh (by omega))
  refine q_0 ?_
  refine q_27 (by first | exact Or.inl rfl | exact Or.inr rfl | assumption | (split <;> first | exact Or.inl rfl | exact Or.inr rfl)) ?_
  exact k
theorem c_57T (h2 : I 12 4 = nI a) (h3 : I 12 5 = nI b) (hab : a < b) (hb : b < 2 ^ 31) (k : Q (.inl (some (.int (nI 1)))) (107, I, L, P)) : mj_ev (d + 1) 57 [.ref 12] (107, I, L, P) Q := by
  refine ⟨rfl, ?_⟩
  show mj_run (mj_ev d) k57 Q (k57 0) [some (.ref 12)] [] (107, I, L, P) 0 0
  refine q_5 rfl ?_
  first | refine q_31E rfl (by decide) h3 ?_ | refine q_31 rfl (by decide) ?_
  refine q_5 rfl ?_
  first | refine q_31E rfl (by decide) h2 ?_ | refine q_31 rfl (by decide) ?_
  refine q_leN (by omega) (by omega) (fun hh => absurd hh (by omega)) (fun hh => ?_)
  refine q_0 ?_
  refine q_23 ?_
  refine q_27 (by first | exact Or.inl rfl | exact Or.inr rfl | assumption | (split <;> first | exact Or.inl rfl | exact Or.inr rfl)) ?_
  exact k
theorem c_57F (h2 : I 12 4 = nI 0) (h3 : I 12 5 = nI 0) (k : Q (.inl (some (.int (nI 0)))) (107, I, L, P)) : mj_ev (d + 1) 57 [.ref 12] (107, I, L, P) Q := by
  refine ⟨rfl, ?_⟩
  show mj_run (mj_ev d) k57 Q (k57 0) [some (.ref 12)] [] (107, I, L, P) 0 0
  refine q_5 rfl ?_
  first | refine q_31E rfl (by decide) h3 ?_ | refine q_31 rfl (by decide) ?_
  refine q_5 rfl ?_
  first | refine q_31E rfl (by decide) h2 ?_ | refine q_31 rfl (by decide) ?_
  refine q_leN (by omega) (by omega) (fun hh => ?_) (fun hh => absurd hh (by omega))
  refine q_0 ?_
  refine q_27 (by first | exact Or.inl rfl | exact Or.inr rfl | assumption | (split <;> first | exact Or.inl rfl | exact Or.inr rfl)) ?_
  exact k
theorem c_87 (hP : PS t P) {al : Option RP} {pa wa sa ca ha pb wb sb cb hb : Nat} (ha10 : a ≤ 10) (hb10 : b ≤ 10) (hal : ruleC (I 14) (I 12 2) (I 12 3) 0 6 al)
    (e1 : I 4 a = nI pa) (e2 : I 5 a = nI wa) (e3 : I 6 a = nI sa) (f1 : I 4 b = nI pb) (f2 : I 5 b = nI wb) (f3 : I 6 b = nI sb)
    (z1 : pa < 100 ∧ wa < 100 ∧ sa < 100 ∧ ca < 100 ∧ ha < 100) (z2 : pb < 100 ∧ wb < 100 ∧ sb < 100 ∧ cb < 100 ∧ hb < 100)
    (k : ∀ I', Eqf (frm [13, 15] []) I I' → Q (.inl (some (.int (alkV al pa wa sa ca ha pb wb sb cb hb)))) (107, I', L, P)) : mj_ev (d + 2) 87 [.ref 3, .int (nI a), .int (nI ca), .int (nI ha), .int (nI b), .int (nI cb), .int (nI hb)] (107, I, L, P) Q := by
  refine ⟨rfl, ?_⟩
  obtain ⟨y1, y2, y3, y4, y5⟩ := z1
  obtain ⟨x1, x2, x3, x4, x5⟩ := z2
  show mj_run (mj_ev (d + 1)) k87 Q (k87 0) [some (.ref 3), some (.int (nI a)), some (.int (nI ca)), some (.int (nI ha)), some (.int (nI b)), some (.int (nI cb)), some (.int (nI hb)), none, none, none, none, none] [] (107, I, L, P) 0 0
  cases al with
  | none =>
    obtain ⟨q2, q3⟩ := hal
    refine q_3 rfl ?_
    refine q_3 rfl ?_
    refine q_11 rfl ?_
    refine q_72 rfl ?_
    rw [abs_dif (by omega) (by omega)]
    refine q_6 rfl rfl rfl ?_
    refine q_5 rfl ?_
    refine q_33 rfl (by decide) (hP _ _ _ rfl) ?_
    refine q_3 rfl ?_
    first | refine q_38E _ rfl (by decide) rfl (by show _ < 11; omega) (by decide) (e3) ?_ | refine q_38E _ rfl (by decide) rfl (by show _ < 11; omega) (by decide) (f3) ?_ | refine q_38 _ rfl (by decide) rfl (by show _ < 11; omega) (by decide) ?_
    refine q_5 rfl ?_
    refine q_33 rfl (by decide) (hP _ _ _ rfl) ?_
    refine q_3 rfl ?_
    first | refine q_38E _ rfl (by decide) rfl (by show _ < 11; omega) (by decide) (e3) ?_ | refine q_38E _ rfl (by decide) rfl (by show _ < 11; omega) (by decide) (f3) ?_ | refine q_38 _ rfl (by decide) rfl (by show _ < 11; omega) (by decide) ?_
    refine q_11 rfl ?_
    refine q_72 rfl ?_
    rw [abs_dif (by omega) (by omega)]
    refine q_6 rfl rfl rfl ?_
    refine q_3 rfl ?_
    refine q_3 rfl ?_
    refine q_11 rfl ?_
    refine q_72 rfl ?_
    rw [abs_dif (by omega) (by omega)]
    refine q_6 rfl rfl rfl ?_
    refine q_5 rfl ?_
    refine q_33 rfl (by decide) (hP _ _ _ rfl) ?_
    refine q_3 rfl ?_
    first | refine q_38E _ rfl (by decide) rfl (by show _ < 11; omega) (by decide) (e1) ?_ | refine q_38E _ rfl (by decide) rfl (by show _ < 11; omega) (by decide) (f1) ?_ | refine q_38 _ rfl (by decide) rfl (by show _ < 11; omega) (by decide) ?_
    refine q_5 rfl ?_
    refine q_33 rfl (by decide) (hP _ _ _ rfl) ?_
    refine q_3 rfl ?_
    first | refine q_38E _ rfl (by decide) rfl (by show _ < 11; omega) (by decide) (e1) ?_ | refine q_38E _ rfl (by decide) rfl (by show _ < 11; omega) (by decide) (f1) ?_ | refine q_38 _ rfl (by decide) rfl (by show _ < 11; omega) (by decide) ?_
    first | refine q_d22_1Nn (J := 58) (by omega) (by omega) (fun j => q_0 (j)) (fun j => q_0 (q_23 (j))) ?_ | refine q_d22_1Ni (J := 58) (by omega) (by omega) (fun j => q_0 (j)) (fun j => q_0 (q_23 (j))) ?_ | refine q_d22_1Mn (J := 58) (by assumption) (fun j => q_0 (j)) (fun j => q_0 (q_23 (j))) ?_ | refine q_d22_1In (J := 58) (fun j => q_0 (j)) (fun j => q_0 (q_23 (j))) ?_ | refine q_d22_1Ii (J := 58) (fun j => q_0 (j)) (fun j => q_0 (q_23 (j))) ?_
    refine q_6 rfl rfl rfl ?_
    refine q_5 rfl ?_
    refine q_33 rfl (by decide) (hP _ _ _ rfl) ?_
    refine q_47 (mj_ev_mono _) [] rfl rfl rfl (by decide) rfl rfl rfl ?_
    refine c_56F q2 q3 ?_
    first | refine q_neN0 (by omega) (fun hh => absurd hh (by omega)) (fun hh => ?_) | refine q_neI0 (fun hh => absurd hh (by omega)) (fun hh => ?_)
    refine q_0 ?_
    refine q_3 rfl ?_
    refine q_11 rfl ?_
    refine q_3 rfl ?_
    refine q_11 rfl ?_
    refine q_3 rfl ?_
    refine q_11 rfl ?_
    refine q_0 ?_
    refine q_3 rfl ?_
    first | refine q_mul ?_ | refine q_11 rfl ?_
    refine q_11 rfl ?_
    refine q_26 ?_
    exact kQ (k I Eqf.rf) (by unfold alkV; by_cases e : pa = pb <;> simp [e])
  | some R =>
    obtain ⟨k0, q2, q3, hk, hf, hok, hpos⟩ := hal
    refine q_3 rfl ?_
    refine q_3 rfl ?_
    refine q_11 rfl ?_
    refine q_72 rfl ?_
    rw [abs_dif (by omega) (by omega)]
    refine q_6 rfl rfl rfl ?_
    refine q_5 rfl ?_
    refine q_33 rfl (by decide) (hP _ _ _ rfl) ?_
    refine q_3 rfl ?_
    first | refine q_38E _ rfl (by decide) rfl (by show _ < 11; omega) (by decide) (e3) ?_ | refine q_38E _ rfl (by decide) rfl (by show _ < 11; omega) (by decide) (f3) ?_ | refine q_38 _ rfl (by decide) rfl (by show _ < 11; omega) (by decide) ?_
    refine q_5 rfl ?_
    refine q_33 rfl (by decide) (hP _ _ _ rfl) ?_
    refine q_3 rfl ?_
    first | refine q_38E _ rfl (by decide) rfl (by show _ < 11; omega) (by decide) (e3) ?_ | refine q_38E _ rfl (by decide) rfl (by show _ < 11; omega) (by decide) (f3) ?_ | refine q_38 _ rfl (by decide) rfl (by show _ < 11; omega) (by decide) ?_
    refine q_11 rfl ?_
    refine q_72 rfl ?_
    rw [abs_dif (by omega) (by omega)]
    refine q_6 rfl rfl rfl ?_
    refine q_3 rfl ?_
    refine q_3 rfl ?_
    refine q_11 rfl ?_
    refine q_72 rfl ?_
    rw [abs_dif (by omega) (by omega)]
    refine q_6 rfl rfl rfl ?_
    refine q_5 rfl ?_
    refine q_33 rfl (by decide) (hP _ _ _ rfl) ?_
    refine q_3 rfl ?_
    first | refine q_38E _ rfl (by decide) rfl (by show _ < 11; omega) (by decide) (e1) ?_ | refine q_38E _ rfl (by decide) rfl (by show _ < 11; omega) (by decide) (f1) ?_ | refine q_38 _ rfl (by decide) rfl (by show _ < 11; omega) (by decide) ?_
    refine q_5 rfl ?_
    refine q_33 rfl (by decide) (hP _ _ _ rfl) ?_
    refine q_3 rfl ?_
    first | refine q_38E _ rfl (by decide) rfl (by show _ < 11; omega) (by decide) (e1) ?_ | refine q_38E _ rfl (by decide) rfl (by show _ < 11; omega) (by decide) (f1) ?_ | refine q_38 _ rfl (by decide) rfl (by show _ < 11; omega) (by decide) ?_
    first | refine q_d22_1Nn (J := 58) (by omega) (by omega) (fun j => q_0 (j)) (fun j => q_0 (q_23 (j))) ?_ | refine q_d22_1Ni (J := 58) (by omega) (by omega) (fun j => q_0 (j)) (fun j => q_0 (q_23 (j))) ?_ | refine q_d22_1Mn (J := 58) (by assumption) (fun j => q_0 (j)) (fun j => q_0 (q_23 (j))) ?_ | refine q_d22_1In (J := 58) (fun j => q_0 (j)) (fun j => q_0 (q_23 (j))) ?_ | refine q_d22_1Ii (J := 58) (fun j => q_0 (j)) (fun j => q_0 (q_23 (j))) ?_
    refine q_6 rfl rfl rfl ?_
    refine q_5 rfl ?_
    refine q_33 rfl (by decide) (hP _ _ _ rfl) ?_
    refine q_47 (mj_ev_mono _) [] rfl rfl rfl (by decide) rfl rfl rfl ?_
    refine c_56T (x := 0) q2 q3 (by omega) (by omega) ?_
    first | refine q_neN0 (by omega) (fun hh => ?_) (fun hh => absurd hh (by omega)) | refine q_neI0 (fun hh => ?_) (fun hh => absurd (by omega) hh)
    refine q_5 rfl ?_
    refine q_33 rfl (by decide) (hP _ _ _ rfl) ?_
    refine q_33 rfl (by decide) (hP _ _ _ rfl) ?_
    refine q_8 rfl rfl rfl ?_
    refine q_5 rfl ?_
    refine q_0 ?_
    refine q_3 rfl ?_
    refine q_42 _ rfl (by decide) rfl (by show _ < 32; omega) (by decide) ?_
    refine q_5 rfl ?_
    refine q_0 ?_
    refine q_3 rfl ?_
    refine q_42 _ rfl (by decide) rfl (by show _ < 32; omega) (by decide) ?_
    refine q_5 rfl ?_
    refine q_0 ?_
    refine q_3 rfl ?_
    refine q_42 _ rfl (by decide) rfl (by show _ < 32; omega) (by decide) ?_
    refine q_5 rfl ?_
    refine q_0 ?_
    refine q_3 rfl ?_
    refine q_3 rfl ?_
    first | refine q_add ?_ | refine q_11 rfl ?_
    refine q_42 _ rfl (by decide) rfl (by show _ < 32; omega) (by decide) ?_
    refine q_5 rfl ?_
    refine q_0 ?_
    refine q_3 rfl ?_
    refine q_42 _ rfl (by decide) rfl (by show _ < 32; omega) (by decide) ?_
    refine q_5 rfl ?_
    refine q_0 ?_
    refine q_5 rfl ?_
    refine q_33 rfl (by decide) (hP _ _ _ rfl) ?_
    refine q_3 rfl ?_
    first | refine q_38E _ rfl (by decide) rfl (by show _ < 11; omega) (by decide) (e2) ?_ | refine q_38E _ rfl (by decide) rfl (by show _ < 11; omega) (by decide) (f2) ?_ | refine q_38 _ rfl (by decide) rfl (by show _ < 11; omega) (by decide) ?_
    refine q_5 rfl ?_
    refine q_33 rfl (by decide) (hP _ _ _ rfl) ?_
    refine q_3 rfl ?_
    first | refine q_38E _ rfl (by decide) rfl (by show _ < 11; omega) (by decide) (e2) ?_ | refine q_38E _ rfl (by decide) rfl (by show _ < 11; omega) (by decide) (f2) ?_ | refine q_38 _ rfl (by decide) rfl (by show _ < 11; omega) (by decide) ?_
    first | refine q_d22_1Nn (J := 158) (by omega) (by omega) (fun j => q_0 (j)) (fun j => q_0 (q_23 (j))) ?_ | refine q_d22_1Ni (J := 158) (by omega) (by omega) (fun j => q_0 (j)) (fun j => q_0 (q_23 (j))) ?_ | refine q_d22_1Mn (J := 158) (by assumption) (fun j => q_0 (j)) (fun j => q_0 (q_23 (j))) ?_ | refine q_d22_1In (J := 158) (fun j => q_0 (j)) (fun j => q_0 (q_23 (j))) ?_ | refine q_d22_1Ii (J := 158) (fun j => q_0 (j)) (fun j => q_0 (q_23 (j))) ?_
    refine q_42 _ rfl (by decide) rfl (by show _ < 32; omega) (by decide) ?_
    refine q_5 rfl ?_
    refine q_0 ?_
    refine q_5 rfl ?_
    refine q_33 rfl (by decide) (hP _ _ _ rfl) ?_
    refine q_3 rfl ?_
    first | refine q_38E _ rfl (by decide) rfl (by show _ < 11; omega) (by decide) (e1) ?_ | refine q_38E _ rfl (by decide) rfl (by show _ < 11; omega) (by decide) (f1) ?_ | refine q_38 _ rfl (by decide) rfl (by show _ < 11; omega) (by decide) ?_
    first | refine q_d21_1Nn (J := 176) (by omega) (fun j => q_0 (j)) (fun j => q_0 (q_23 (j))) ?_ | refine q_d21_1Ni (J := 176) (by omega) (fun j => q_0 (j)) (fun j => q_0 (q_23 (j))) ?_ | refine q_d21_1In (J := 176) (fun j => q_0 (j)) (fun j => q_0 (q_23 (j))) ?_ | refine q_d21_1Ii (J := 176) (fun j => q_0 (j)) (fun j => q_0 (q_23 (j))) ?_
    refine q_5 rfl ?_
    refine q_33 rfl (by decide) (hP _ _ _ rfl) ?_
    refine q_3 rfl ?_
    first | refine q_38E _ rfl (by decide) rfl (by show _ < 11; omega) (by decide) (e1) ?_ | refine q_38E _ rfl (by decide) rfl (by show _ < 11; omega) (by decide) (f1) ?_ | refine q_38 _ rfl (by decide) rfl (by show _ < 11; omega) (by decide) ?_
    first | refine q_d21_1Nn (J := 191) (by omega) (fun j => q_0 (j)) (fun j => q_0 (q_23 (j))) ?_ | refine q_d21_1Ni (J := 191) (by omega) (fun j => q_0 (j)) (fun j => q_0 (q_23 (j))) ?_ | refine q_d21_1In (J := 191) (fun j => q_0 (j)) (fun j => q_0 (q_23 (j))) ?_ | refine q_d21_1Ii (J := 191) (fun j => q_0 (j)) (fun j => q_0 (q_23 (j))) ?_
    first | refine q_add ?_ | refine q_11 rfl ?_
    refine q_42 _ rfl (by decide) rfl (by show _ < 32; omega) (by decide) ?_
    refine q_5 rfl ?_
    refine q_33 rfl (by decide) (hP _ _ _ rfl) ?_
    refine q_5 rfl ?_
    refine q_33 rfl (by decide) (hP _ _ _ rfl) ?_
    first | refine q_31E rfl (by decide) q2 ?_ | refine q_31 rfl (by decide) ?_
    refine q_5 rfl ?_
    refine q_33 rfl (by decide) (hP _ _ _ rfl) ?_
    first | refine q_31E rfl (by decide) q3 ?_ | refine q_31 rfl (by decide) ?_
    refine q_47 (mj_ev_mono _) [_, _] rfl rfl rfl (by decide) rfl rfl rfl ?_
    refine c_62 hP (R := R) (val := vA (dif ca cb) (dif sa sb) (dif ha hb) (ha + hb) (if pa = pb then 1 else 0) (if wa = wb then 1 else 0) ((if pa = 0 then 1 else 0) + (if pb = 0 then 1 else 0))) (lo := 0) (hi := 6) (by decide) hk hf hok ?_ ?_
    · intro v hv1 hv2
      obtain rfl | rfl | rfl | rfl | rfl | rfl | rfl : v = 0 ∨ v = 1 ∨ v = 2 ∨ v = 3 ∨ v = 4 ∨ v = 5 ∨ v = 6 := by omega
      all_goals rfl
    intro I' e'
    refine q_26 ?_
    exact k I' (Eqf.tr (((((((Eqf.rf.up rfl).up rfl).up rfl).up rfl).up rfl).up rfl).up rfl) (e'.to rfl rfl))
end C
