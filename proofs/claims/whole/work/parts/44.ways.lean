/-! the model: as many couples as could be, the most alike -/
/-- what may be, and how much it is -/
def okA (al : Nat → Nat → Int32) (a b : Nat) : Bool := decide (0 < al a b)
def wtA (al : Nat → Nat → Int32) (a b : Nat) : Nat := (al a b).toInt.toNat
theorem wtA_lt (al : Nat → Nat → Int32) (a b : Nat) : wtA al a b < 2 ^ 31 := by
  have := Int32.toInt_lt (al a b)
  unfold wtA
  omega
theorem wtA_eq {al : Nat → Nat → Int32} {a b : Nat} (h : 0 < al a b) : al a b = nI (wtA al a b) := by
  have h1 : 0 < (al a b).toInt := by
    have := Int32.lt_iff_toInt_lt.mp h
    simpa using this
  apply Int32.toInt_inj.mp
  rw [nI_toInt (wtA_lt al a b)]
  unfold wtA
  omega
/-- the model's tables below s -/
def TB (al : Nat → Nat → Int32) (n s : Nat) (I : mj_I) (L : mj_L) : Prop := ∀ S : Nat → Bool, maskF S n < s → I 94 (maskF S n) = nI (hT (fun _ _ => 1) (okA al) n S) ∧ L 95 (maskF S n) = lN (hT (wtA al) (okA al) n S)
def AL (al : Nat → Nat → Int32) (n : Nat) (I : mj_I) : Prop := ∀ a b, a < n → b < n → I 93 (10 * a + b) = if a = b then nI 0 else al a b
theorem hT1_le {al : Nat → Nat → Int32} {n : Nat} (S : Nat → Bool) (hn : n ≤ 10) : hT (fun _ _ => 1) (okA al) n S ≤ 10 := Nat.le_trans (hm_le (M := 1) (fun _ _ _ _ => Nat.le_refl _) n S (Nat.le_refl _)) (by omega)
theorem hTA_le {al : Nat → Nat → Int32} {n : Nat} (S : Nat → Bool) (hn : n ≤ 10) : hT (wtA al) (okA al) n S ≤ 10 * 2 ^ 31 := Nat.le_trans (hm_le (M := 2 ^ 31) (fun a b _ _ => Nat.le_of_lt (wtA_lt al a b)) n S (Nat.le_refl _)) (by omega)
def FW (c j : Nat) : Bool := c == 91 || c == 92 || c == 93 || (c == 94 && !(j == 0))
def FWL (c j : Nat) : Bool := c == 95 && !(j == 0)
theorem FW_fm {I I' : mj_I} (e : Eqf FW I I') : Eqf FM I I' := e.mono (fun c j q => by
  rw [← Bool.not_eq_true] at q ⊢
  intro q2
  apply q
  unfold FW at q2
  simp only [Bool.or_eq_true] at q2
  rcases q2 with ((q3 | q3) | q3) | q3
  · obtain rfl := eq_of_beq q3
    rfl
  · obtain rfl := eq_of_beq q3
    rfl
  · obtain rfl := eq_of_beq q3
    rfl
  · rw [Bool.and_eq_true] at q3
    obtain rfl := eq_of_beq q3.1
    unfold FM pers
    simp at q3
    simp [q3])
theorem FWL_fl {L L' : mj_L} (e : EqL FWL L L') : EqL FL L L' := e.mono (fun c j q => by
  rw [← Bool.not_eq_true] at q ⊢
  intro q2
  apply q
  unfold FWL at q2
  rw [Bool.and_eq_true] at q2
  obtain rfl := eq_of_beq q2.1
  unfold FL
  simp at q2
  simp [q2])
theorem MT.fw {w : WT} {I I' : mj_I} (h : MT w I) (e : Eqf FW I I') : MT w I' := h.fr e (fun _ => ⟨rfl, rfl, rfl, rfl, rfl, rfl, rfl, rfl⟩)
theorem RW.fw {n r : Nat} {c h : Nat → Nat} {m : MM} {I I' : mj_I} (hR : RW n r c h m I) (e : Eqf FW I I') : RW n r c h m I' := hR.fr e (fun _ _ _ => rfl)
theorem FW_91 {I I' : mj_I} (e : Eqf (frm [91, 92] []) I I') : Eqf FW I I' := frm_to e (fun c hc j => by
  simp only [List.mem_cons, List.not_mem_nil, or_false] at hc
  rcases hc with rfl | rfl <;> rfl) (fun q hq => by cases hq)
section M
variable {I : mj_I} {L : mj_L} {P : mj_P} {Q : mj_Q} {d n r t a b : Nat} {A : AS} {w : WT} {c h : Nat → Nat} {m : MM} {S : Nat → Bool} {al : Nat → Nat → Int32}
theorem s_244 (hn : n ≤ 10) (ha : a < n) (hS : S a = true) (hl : ∀ p, p < a → S p = false) (k : Q (.inl (some (.int (nI a)))) (107, I, L, P)) : mj_ev (d + 1) 244 [.int (nI (maskF S n))] (107, I, L, P) Q := by
  refine ⟨rfl, ?_⟩
  have L2 : ∀ i, i ≤ a → mj_run (mj_ev d) k244 Q (k244 2) [some (.int (nI (maskF S n))), some (.int (nI i))] [] (107, I, L, P) 0 0 := by
    refine loop_up ?_ (fun i hi ih => ?_)
    · refine q_3 rfl ?_
      refine q_3 rfl ?_
      first | refine q_bitT (by assumption) (by omega) (by omega) ?_ | refine q_bitF (by assumption) (by omega) (by omega) ?_ | refine q_bit (by omega) (by omega) ?_ | refine q_bitM (by first | omega | assumption) (by omega) ?_
      first | refine q_neN0 (by omega) (fun hh => ?_) (fun hh => absurd hh (by omega)) | refine q_neI0 (fun hh => ?_) (fun hh => absurd (by omega) hh)
      refine q_3 rfl ?_
      refine q_26 ?_
      exact k
    · have hf := hl i hi
      refine q_3 rfl ?_
      refine q_3 rfl ?_
      first | refine q_bitT (by assumption) (by omega) (by omega) ?_ | refine q_bitF (by assumption) (by omega) (by omega) ?_ | refine q_bit (by omega) (by omega) ?_ | refine q_bitM (by first | omega | assumption) (by omega) ?_
      first | refine q_neN0 (by omega) (fun hh => absurd hh (by omega)) (fun hh => ?_) | refine q_neI0 (fun hh => absurd hh (by omega)) (fun hh => ?_)
      first | refine q_inc rfl rfl rfl ?_ | refine q_9 rfl rfl rfl ?_
      refine q_23 ?_
      exact ih
  show mj_run (mj_ev d) k244 Q (k244 0) [some (.int (nI (maskF S n))), none] [] (107, I, L, P) 0 0
  refine q_0 ?_
  refine q_6 rfl rfl rfl ?_
  exact L2 0 (by omega)
theorem s_245 (hP : PS t P) (hn : I 73 1 = nI n) (hn10 : n ≤ 10) (hA : AL al n I) (hT' : TB al n (maskF S n) I L) (ha : a < n) (hS : S a = true) (hl : ∀ p, p < a → S p = false) (k : ∀ I' L', Eqf FW I I' → EqL FWL L L' → I' 93 = I 93 → TB al n (maskF S n + 1) I' L' → Q (.inl none) (107, I', L', P)) : mj_ev (d + 2) 245 [.ref 73, .int (nI (maskF S n))] (107, I, L, P) Q := by
  refine ⟨rfl, ?_⟩
  have ms := mask_lt10 S hn10
  have mr := mask_lt10 (sm S a) hn10
  have lt1 := mask_sm_lt ha hS
  obtain ⟨t1, t2⟩ := hT' (sm S a) lt1
  have pos : maskF S n ≠ 0 := by omega
  have L42 : ∀ b, b ≤ n → a + 1 ≤ b → ∀ x y I' L' x5, x ≤ 11 → y ≤ 10 * 2 ^ 31 → fld n b (hmF (fun _ _ => 1) (okA al) (hT (fun _ _ => 1) (okA al) n) (sm S a) a) x = hT (fun _ _ => 1) (okA al) n S → fld n b (hmF (wtA al) (okA al) (hT (wtA al) (okA al) n) (sm S a) a) y = hT (wtA al) (okA al) n S → (∀ c j, (c ≠ 94 ∨ j ≠ maskF S n) → I' c j = I c j) → (∀ c j, (c ≠ 95 ∨ j ≠ maskF S n) → L' c j = L c j) → I' 94 (maskF S n) = nI x → L' 95 (maskF S n) = lN y → mj_run (mj_ev (d + 1)) k245 Q (k245 42) [some (.ref 73), some (.int (nI (maskF S n))), some (.int (nI a)), some (.int (nI (maskF (sm S a) n))), some (.int (nI b)), x5] [] (107, I', L', P) 0 0 := by
    refine loop_up ?_ (fun b hb ih => ?_)
    · intro _ x y I' L' x5 hx hy f1 f2 eI eL v1 v2
      rw [fld_end (Nat.le_refl _)] at f1 f2
      subst f1 f2
      have hn' : I' 73 1 = nI n := (eI 73 1 (by omega)).trans hn
      refine q_3 rfl ?_
      refine q_5 rfl ?_
      first | refine q_31E rfl (by decide) hn' ?_ | refine q_31 rfl (by decide) ?_
      refine q_geN (by omega) (by omega) (fun hh => ?_) (fun hh => absurd hh (by omega))
      refine q_25 ?_
      refine k I' L' (fun c j q => ?_) (fun c j q => ?_) (funext fun j => eI 93 j (by omega)) (fun S' hS' => ?_)
      · refine eI c j ?_
        by_cases e : c = 94
        · subst e
          refine Or.inr (fun e2 => ?_)
          subst e2
          have : (maskF S n == 0) = false := by simp [pos]
          unfold FW at q
          rw [this] at q
          exact absurd q (by decide)
        · exact Or.inl e
      · refine eL c j ?_
        by_cases e : c = 95
        · subst e
          refine Or.inr (fun e2 => ?_)
          subst e2
          have : (maskF S n == 0) = false := by simp [pos]
          unfold FWL at q
          rw [this] at q
          exact absurd q (by decide)
        · exact Or.inl e
      · by_cases e : maskF S' n = maskF S n
        · have es : ∀ p, p < n → S' p = S p := fun p hp => by
            have := congrArg (fun z => z.testBit p) e
            simp only [tb_mask] at this
            simpa [hp] using this
          rw [e, v1, v2, hT_congr es, hT_congr es]
          exact ⟨rfl, rfl⟩
        · rw [eI 94 _ (Or.inr e), eL 95 _ (Or.inr e)]
          exact hT' S' (by omega)
    · intro hab x y I' L' x5 hx hy f1 f2 eI eL v1 v2
      have hn' : I' 73 1 = nI n := (eI 73 1 (by omega)).trans hn
      rw [fld_step hb] at f1 f2
      have a93 : I' 93 (10 * a + b) = al a b := by
        rw [eI 93 _ (by omega), hA a b ha hb, if_neg (by omega)]
      have no : ¬ (sm S a b = true ∧ okA al a b = true) → ∀ y5, mj_run (mj_ev (d + 1)) k245 Q (k245 42) [some (.ref 73), some (.int (nI (maskF S n))), some (.int (nI a)), some (.int (nI (maskF (sm S a) n))), some (.int (nI (b + 1))), y5] [] (107, I', L', P) 0 0 := by
        intro q y5
        unfold hmF at f1 f2
        rw [if_neg q] at f1 f2
        exact ih (by omega) x y I' L' y5 hx hy f1 f2 eI eL v1 v2
      cases hsb : sm S a b with
      | false =>
        refine q_3 rfl ?_
        refine q_5 rfl ?_
        first | refine q_31E rfl (by decide) hn' ?_ | refine q_31 rfl (by decide) ?_
        refine q_geN (by omega) (by omega) (fun hh => absurd hh (by omega)) (fun hh => ?_)
        refine q_3 rfl ?_
        refine q_3 rfl ?_
        first | refine q_bitT (by assumption) (by omega) (by omega) ?_ | refine q_bitF (by assumption) (by omega) (by omega) ?_ | refine q_bit (by omega) (by omega) ?_ | refine q_bitM (by first | omega | assumption) (by omega) ?_
        first | refine q_eqN0 (by omega) (fun hh => ?_) (fun hh => absurd hh (by omega)) | refine q_eqI0 (fun hh => ?_) (fun hh => absurd (by omega) hh)
        first | refine q_inc rfl rfl rfl ?_ | refine q_9 rfl rfl rfl ?_
        refine q_23 ?_
        exact no (fun q => by rw [hsb] at q; cases q.1) _
      | true =>
        by_cases hok : 0 < al a b
        · have ml := mask_lt10 (sm (sm S a) b) hn10
          have lt2 := mask_sm_lt (S := sm S a) hb hsb
          obtain ⟨u1, u2⟩ := hT' (sm (sm S a) b) (by omega)
          have u1' : I' 94 (maskF (sm (sm S a) b) n) = nI (hT (fun _ _ => 1) (okA al) n (sm (sm S a) b)) := (eI 94 _ (by omega)).trans u1
          have u2' : L' 95 (maskF (sm (sm S a) b) n) = lN (hT (wtA al) (okA al) n (sm (sm S a) b)) := (eL 95 _ (by omega)).trans u2
          have b1 := hT1_le (al := al) (sm (sm S a) b) hn10
          have b2 := hTA_le (al := al) (sm (sm S a) b) hn10
          have bw := wtA_lt al a b
          have ew := wtA_eq hok
          have el : (al a b).toInt64 = lN (wtA al a b) := by
            conv => lhs; rw [ew]
            exact nI_l bw
          have yes : hmF (fun _ _ => 1) (okA al) (hT (fun _ _ => 1) (okA al) n) (sm S a) a x b = (if x < hT (fun _ _ => 1) (okA al) n (sm (sm S a) b) + 1 then hT (fun _ _ => 1) (okA al) n (sm (sm S a) b) + 1 else x) := by
            unfold hmF
            rw [if_pos ⟨hsb, decide_eq_true hok⟩]
          have yes2 : hmF (wtA al) (okA al) (hT (wtA al) (okA al) n) (sm S a) a y b = (if y < hT (wtA al) (okA al) n (sm (sm S a) b) + wtA al a b then hT (wtA al) (okA al) n (sm (sm S a) b) + wtA al a b else y) := by
            unfold hmF
            rw [if_pos ⟨hsb, decide_eq_true hok⟩]
          rw [yes] at f1
          rw [yes2] at f2
          have bT : (if y < hT (wtA al) (okA al) n (sm (sm S a) b) + wtA al a b then hT (wtA al) (okA al) n (sm (sm S a) b) + wtA al a b else y) ≤ 10 * 2 ^ 31 := by
            have := hTA_le (al := al) S hn10
            rw [← f2] at this
            refine Nat.le_trans ?_ this
            have mon : ∀ z, z ≤ fld n (b + 1) (hmF (wtA al) (okA al) (hT (wtA al) (okA al) n) (sm S a) a) z := fun z => fld_inv (p := fun _ v => z ≤ v) (Nat.le_refl _) (fun j v _ _ h3 => by
              unfold hmF
              split
              · split <;> omega
              · exact h3) (by omega)
            exact mon _
          have bC : (if x < hT (fun _ _ => 1) (okA al) n (sm (sm S a) b) + 1 then hT (fun _ _ => 1) (okA al) n (sm (sm S a) b) + 1 else x) ≤ 11 := by split <;> omega
          have J : ∀ v z5, v = (if x < hT (fun _ _ => 1) (okA al) n (sm (sm S a) b) + 1 then hT (fun _ _ => 1) (okA al) n (sm (sm S a) b) + 1 else x) → z5 = some (Value.int (nI (maskF (sm (sm S a) b) n))) → mj_run (mj_ev (d + 1)) k245 Q (k245 129) [some (.ref 73), some (.int (nI (maskF S n))), some (.int (nI a)), some (.int (nI (maskF (sm S a) n))), some (.int (nI b)), z5] [.int (nI v), .int (nI (maskF S n)), .ref 94] (107, I', L', P) 0 0 := by
            rintro v z5 hv rfl
            have a93' : mj_upI I' 94 (maskF S n) (nI v) 93 (10 * a + b) = al a b := a93
            have fin : ∀ z, z = (if y < hT (wtA al) (okA al) n (sm (sm S a) b) + wtA al a b then hT (wtA al) (okA al) n (sm (sm S a) b) + wtA al a b else y) → ∀ y5, mj_run (mj_ev (d + 1)) k245 Q (k245 42) [some (.ref 73), some (.int (nI (maskF S n))), some (.int (nI a)), some (.int (nI (maskF (sm S a) n))), some (.int (nI (b + 1))), y5] [] (107, mj_upI I' 94 (maskF S n) (nI v), mj_upL L' 95 (maskF S n) (lN z), P) 0 0 := by
              intro z hz y5
              refine ih (by omega) v z _ _ y5 (by rw [hv]; exact bC) (by rw [hz]; exact bT) (by rw [hv]; exact f1) (by rw [hz]; exact f2) (fun c j q => ?_) (fun c j q => ?_) upI_s upL_s
              · by_cases e : c = 94
                · subst e
                  rw [upI_j (q.resolve_left (fun z => z rfl))]
                  exact eI _ _ q
                · rw [upI_c e]
                  exact eI _ _ q
              · by_cases e : c = 95
                · subst e
                  rw [upL_j (q.resolve_left (fun z => z rfl))]
                  exact eL _ _ q
                · rw [upL_c e]
                  exact eL _ _ q
            rcases Nat.lt_or_ge y (hT (wtA al) (okA al) n (sm (sm S a) b) + wtA al a b) with hlt | hge
            · rw [if_pos hlt] at fin
              refine q_42 _ rfl (by decide) rfl (by show _ < 1024; omega) (by decide) ?_
              refine q_5 rfl ?_
              refine q_33 rfl (by decide) (hP _ _ _ rfl) ?_
              refine q_3 rfl ?_
              refine q_5 rfl ?_
              refine q_33 rfl (by decide) (hP _ _ _ rfl) ?_
              refine q_3 rfl ?_
              refine q_39E _ rfl (by decide) rfl (by show _ < 1024; omega) (by decide) u2' ?_
              refine q_5 rfl ?_
              refine q_33 rfl (by decide) (hP _ _ _ rfl) ?_
              refine q_0 ?_
              refine q_3 rfl ?_
              first | refine q_mul ?_ | refine q_11 rfl ?_
              refine q_3 rfl ?_
              first | refine q_add ?_ | refine q_11 rfl ?_
              first | refine q_38E _ rfl (by decide) rfl (by show _ < 100; omega) (by decide) (a93') ?_ | refine q_38 _ rfl (by decide) rfl (by show _ < 100; omega) (by decide) ?_
              refine q_15 ?_
              rw [el]
              refine q_13 rfl ?_
              rw [lN_add]
              refine q_5 rfl ?_
              refine q_33 rfl (by decide) (hP _ _ _ rfl) ?_
              refine q_3 rfl ?_
              refine q_39E _ rfl (by decide) rfl (by show _ < 1024; omega) (by decide) v2 ?_
              refine q_17 ?_
              refine q_leI0 (fun z => absurd ((pk_lLE (by omega) (by omega)).mp ((lg_cmp_le _ _).mp z)) (by omega)) (fun _ => ?_)
              refine q_5 rfl ?_
              refine q_33 rfl (by decide) (hP _ _ _ rfl) ?_
              refine q_3 rfl ?_
              refine q_39E _ rfl (by decide) rfl (by show _ < 1024; omega) (by decide) u2' ?_
              refine q_5 rfl ?_
              refine q_33 rfl (by decide) (hP _ _ _ rfl) ?_
              refine q_0 ?_
              refine q_3 rfl ?_
              first | refine q_mul ?_ | refine q_11 rfl ?_
              refine q_3 rfl ?_
              first | refine q_add ?_ | refine q_11 rfl ?_
              first | refine q_38E _ rfl (by decide) rfl (by show _ < 100; omega) (by decide) (a93') ?_ | refine q_38 _ rfl (by decide) rfl (by show _ < 100; omega) (by decide) ?_
              refine q_15 ?_
              rw [el]
              refine q_13 rfl ?_
              rw [lN_add]
              refine q_23 ?_
              refine q_43 _ rfl (by decide) rfl (by show _ < 1024; omega) (by decide) ?_
              first | refine q_inc rfl rfl rfl ?_ | refine q_9 rfl rfl rfl ?_
              refine q_23 ?_
              exact fin _ rfl _
            · rw [if_neg (by omega)] at fin
              refine q_42 _ rfl (by decide) rfl (by show _ < 1024; omega) (by decide) ?_
              refine q_5 rfl ?_
              refine q_33 rfl (by decide) (hP _ _ _ rfl) ?_
              refine q_3 rfl ?_
              refine q_5 rfl ?_
              refine q_33 rfl (by decide) (hP _ _ _ rfl) ?_
              refine q_3 rfl ?_
              refine q_39E _ rfl (by decide) rfl (by show _ < 1024; omega) (by decide) u2' ?_
              refine q_5 rfl ?_
              refine q_33 rfl (by decide) (hP _ _ _ rfl) ?_
              refine q_0 ?_
              refine q_3 rfl ?_
              first | refine q_mul ?_ | refine q_11 rfl ?_
              refine q_3 rfl ?_
              first | refine q_add ?_ | refine q_11 rfl ?_
              first | refine q_38E _ rfl (by decide) rfl (by show _ < 100; omega) (by decide) (a93') ?_ | refine q_38 _ rfl (by decide) rfl (by show _ < 100; omega) (by decide) ?_
              refine q_15 ?_
              rw [el]
              refine q_13 rfl ?_
              rw [lN_add]
              refine q_5 rfl ?_
              refine q_33 rfl (by decide) (hP _ _ _ rfl) ?_
              refine q_3 rfl ?_
              refine q_39E _ rfl (by decide) rfl (by show _ < 1024; omega) (by decide) v2 ?_
              refine q_17 ?_
              refine q_leI0 (fun _ => ?_) (fun z => absurd ((lg_cmp_le _ _).mpr ((pk_lLE (by omega) (by omega)).mpr (by omega))) z)
              refine q_5 rfl ?_
              refine q_33 rfl (by decide) (hP _ _ _ rfl) ?_
              refine q_3 rfl ?_
              refine q_39E _ rfl (by decide) rfl (by show _ < 1024; omega) (by decide) v2 ?_
              refine q_43 _ rfl (by decide) rfl (by show _ < 1024; omega) (by decide) ?_
              first | refine q_inc rfl rfl rfl ?_ | refine q_9 rfl rfl rfl ?_
              refine q_23 ?_
              exact fin _ rfl _
          refine q_3 rfl ?_
          refine q_5 rfl ?_
          first | refine q_31E rfl (by decide) hn' ?_ | refine q_31 rfl (by decide) ?_
          refine q_geN (by omega) (by omega) (fun hh => absurd hh (by omega)) (fun hh => ?_)
          refine q_3 rfl ?_
          refine q_3 rfl ?_
          first | refine q_bitT (by assumption) (by omega) (by omega) ?_ | refine q_bitF (by assumption) (by omega) (by omega) ?_ | refine q_bit (by omega) (by omega) ?_ | refine q_bitM (by first | omega | assumption) (by omega) ?_
          first | refine q_eqN0 (by omega) (fun hh => absurd hh (by omega)) (fun hh => ?_) | refine q_eqI0 (fun hh => absurd hh (by omega)) (fun hh => ?_)
          refine q_5 rfl ?_
          refine q_33 rfl (by decide) (hP _ _ _ rfl) ?_
          refine q_0 ?_
          refine q_3 rfl ?_
          first | refine q_mul ?_ | refine q_11 rfl ?_
          refine q_3 rfl ?_
          first | refine q_add ?_ | refine q_11 rfl ?_
          first | refine q_38E _ rfl (by decide) rfl (by show _ < 100; omega) (by decide) (a93) ?_ | refine q_38 _ rfl (by decide) rfl (by show _ < 100; omega) (by decide) ?_
          refine q_gtI0 (fun _ => ?_) (fun z => absurd hok z)
          refine q_3 rfl ?_
          refine q_0 ?_
          refine q_3 rfl ?_
          first | refine q_shl1 (by omega) ?_ | refine q_11 rfl ?_
          refine q_andnot ?_
          rw [mask_sm _ hb]
          refine q_6 rfl rfl rfl ?_
          refine q_5 rfl ?_
          refine q_33 rfl (by decide) (hP _ _ _ rfl) ?_
          refine q_3 rfl ?_
          refine q_5 rfl ?_
          refine q_33 rfl (by decide) (hP _ _ _ rfl) ?_
          refine q_3 rfl ?_
          first | refine q_38E _ rfl (by decide) rfl (by show _ < 1024; omega) (by decide) (u1') ?_ | refine q_38E _ rfl (by decide) rfl (by show _ < 1024; omega) (by decide) (v1) ?_ | refine q_38 _ rfl (by decide) rfl (by show _ < 1024; omega) (by decide) ?_
          refine q_0 ?_
          first | refine q_add ?_ | refine q_11 rfl ?_
          refine q_5 rfl ?_
          refine q_33 rfl (by decide) (hP _ _ _ rfl) ?_
          refine q_3 rfl ?_
          first | refine q_38E _ rfl (by decide) rfl (by show _ < 1024; omega) (by decide) (u1') ?_ | refine q_38E _ rfl (by decide) rfl (by show _ < 1024; omega) (by decide) (v1) ?_ | refine q_38 _ rfl (by decide) rfl (by show _ < 1024; omega) (by decide) ?_
          refine q_leN (by omega) (by omega) (fun h1 => ?_) (fun h1 => ?_)
          · refine q_5 rfl ?_
            refine q_33 rfl (by decide) (hP _ _ _ rfl) ?_
            refine q_3 rfl ?_
            first | refine q_38E _ rfl (by decide) rfl (by show _ < 1024; omega) (by decide) (u1') ?_ | refine q_38E _ rfl (by decide) rfl (by show _ < 1024; omega) (by decide) (v1) ?_ | refine q_38 _ rfl (by decide) rfl (by show _ < 1024; omega) (by decide) ?_
            first | exact J _ _ (by rw [if_pos (by omega)]) rfl | exact J _ _ (by rw [if_neg (by omega)]) rfl
          · refine q_5 rfl ?_
            refine q_33 rfl (by decide) (hP _ _ _ rfl) ?_
            refine q_3 rfl ?_
            first | refine q_38E _ rfl (by decide) rfl (by show _ < 1024; omega) (by decide) (u1') ?_ | refine q_38E _ rfl (by decide) rfl (by show _ < 1024; omega) (by decide) (v1) ?_ | refine q_38 _ rfl (by decide) rfl (by show _ < 1024; omega) (by decide) ?_
            refine q_0 ?_
            first | refine q_add ?_ | refine q_11 rfl ?_
            refine q_23 ?_
            first | exact J _ _ (by rw [if_pos (by omega)]) rfl | exact J _ _ (by rw [if_neg (by omega)]) rfl
        · refine q_3 rfl ?_
          refine q_5 rfl ?_
          first | refine q_31E rfl (by decide) hn' ?_ | refine q_31 rfl (by decide) ?_
          refine q_geN (by omega) (by omega) (fun hh => absurd hh (by omega)) (fun hh => ?_)
          refine q_3 rfl ?_
          refine q_3 rfl ?_
          first | refine q_bitT (by assumption) (by omega) (by omega) ?_ | refine q_bitF (by assumption) (by omega) (by omega) ?_ | refine q_bit (by omega) (by omega) ?_ | refine q_bitM (by first | omega | assumption) (by omega) ?_
          first | refine q_eqN0 (by omega) (fun hh => absurd hh (by omega)) (fun hh => ?_) | refine q_eqI0 (fun hh => absurd hh (by omega)) (fun hh => ?_)
          refine q_5 rfl ?_
          refine q_33 rfl (by decide) (hP _ _ _ rfl) ?_
          refine q_0 ?_
          refine q_3 rfl ?_
          first | refine q_mul ?_ | refine q_11 rfl ?_
          refine q_3 rfl ?_
          first | refine q_add ?_ | refine q_11 rfl ?_
          first | refine q_38E _ rfl (by decide) rfl (by show _ < 100; omega) (by decide) (a93) ?_ | refine q_38 _ rfl (by decide) rfl (by show _ < 100; omega) (by decide) ?_
          refine q_gtI0 (fun z => absurd z hok) (fun _ => ?_)
          refine q_23 ?_
          first | refine q_inc rfl rfl rfl ?_ | refine q_9 rfl rfl rfl ?_
          refine q_23 ?_
          exact no (fun q => hok (of_decide_eq_true q.2)) _
  have r1 := hT_rec (wt := fun _ _ => 1) (ok := okA al) ha hS hl
  have r2 := hT_rec (wt := wtA al) (ok := okA al) ha hS hl
  show mj_run (mj_ev (d + 1)) k245 Q (k245 0) [some (.ref 73), some (.int (nI (maskF S n))), none, none, none, none] [] (107, I, L, P) 0 0
  refine q_3 rfl ?_
  refine q_48 (mj_ev_mono _) [_] rfl rfl rfl rfl rfl ?_
  refine s_244 hn10 ha hS hl ?_
  refine q_6 rfl rfl rfl ?_
  refine q_3 rfl ?_
  refine q_0 ?_
  refine q_3 rfl ?_
  first | refine q_shl1 (by omega) ?_ | refine q_11 rfl ?_
  refine q_andnot ?_
  rw [mask_sm _ ha]
  refine q_6 rfl rfl rfl ?_
  refine q_5 rfl ?_
  refine q_33 rfl (by decide) (hP _ _ _ rfl) ?_
  refine q_3 rfl ?_
  refine q_5 rfl ?_
  refine q_33 rfl (by decide) (hP _ _ _ rfl) ?_
  refine q_3 rfl ?_
  first | refine q_38E _ rfl (by decide) rfl (by show _ < 1024; omega) (by decide) (t1) ?_ | refine q_38 _ rfl (by decide) rfl (by show _ < 1024; omega) (by decide) ?_
  refine q_42 _ rfl (by decide) rfl (by show _ < 1024; omega) (by decide) ?_
  refine q_5 rfl ?_
  refine q_33 rfl (by decide) (hP _ _ _ rfl) ?_
  refine q_3 rfl ?_
  refine q_5 rfl ?_
  refine q_33 rfl (by decide) (hP _ _ _ rfl) ?_
  refine q_3 rfl ?_
  refine q_39E _ rfl (by decide) rfl (by show _ < 1024; omega) (by decide) t2 ?_
  refine q_43 _ rfl (by decide) rfl (by show _ < 1024; omega) (by decide) ?_
  refine q_3 rfl ?_
  refine q_0 ?_
  first | refine q_add ?_ | refine q_11 rfl ?_
  refine q_6 rfl rfl rfl ?_
  refine L42 (a + 1) (by omega) (Nat.le_refl _) _ _ _ _ _ (Nat.le_trans (hT1_le _ hn10) (by omega)) (hTA_le _ hn10) r1.symm r2.symm (fun c j q => ?_) (fun c j q => ?_) upI_s upL_s
  · by_cases e : c = 94
    · subst e
      exact upI_j (q.resolve_left (fun z => z rfl))
    · rw [upI_c e]
  · by_cases e : c = 95
    · subst e
      exact upL_j (q.resolve_left (fun z => z rfl))
    · rw [upL_c e]
end M
