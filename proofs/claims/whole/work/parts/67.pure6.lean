/-! the best of all ways: by the greatest one first -/
def mtc (ok : Nat → Nat → Bool) (n : Nat) : List (Nat × Nat) → (Nat → Bool) → Prop
  | [], _ => True
  | q :: l, S => q.1 < q.2 ∧ q.2 < n ∧ S q.1 = true ∧ S q.2 = true ∧ ok q.1 q.2 = true ∧ mtc ok n l (sm (sm S q.1) q.2)
def wsm (wt : Nat → Nat → Nat) : List (Nat × Nat) → Nat
  | [] => 0
  | q :: l => wt q.1 q.2 + wsm wt l
def ach (wt : Nat → Nat → Nat) (ok : Nat → Nat → Bool) (n : Nat) (S : Nat → Bool) (v : Nat) : Prop := ∃ l, mtc ok n l S ∧ wsm wt l = v
theorem sm_t {S : Nat → Bool} {a i : Nat} : sm S a i = true ↔ S i = true ∧ i ≠ a := by
  unfold sm
  rw [Bool.and_eq_true]
  simp
theorem sm_sw (S : Nat → Bool) (a b : Nat) : sm (sm S a) b = sm (sm S b) a := funext fun i => Bool.and_right_comm _ _ _
theorem mtc_mono {ok : Nat → Nat → Bool} {n : Nat} : ∀ {l : List (Nat × Nat)} {S S' : Nat → Bool}, (∀ i, S i = true → S' i = true) → mtc ok n l S → mtc ok n l S'
  | [], _, _, _, _ => trivial
  | q :: l, S, S', h, ⟨h1, h2, h3, h4, h5, h6⟩ => ⟨h1, h2, h _ h3, h _ h4, h5, mtc_mono (fun i hi => by
      rw [sm_t, sm_t] at hi ⊢
      exact ⟨⟨h _ hi.1.1, hi.1.2⟩, hi.2⟩) h6⟩
theorem mtc_split {wt : Nat → Nat → Nat} {ok : Nat → Nat → Bool} {n : Nat} (x : Nat) : ∀ {l : List (Nat × Nat)} {S : Nat → Bool}, mtc ok n l S → mtc ok n l (sm S x) ∨ ∃ (q : Nat × Nat) (l' : List (Nat × Nat)), (q.1 = x ∨ q.2 = x) ∧ q.1 < q.2 ∧ q.2 < n ∧ S q.1 = true ∧ S q.2 = true ∧ ok q.1 q.2 = true ∧ mtc ok n l' (sm (sm S q.1) q.2) ∧ wsm wt l = wt q.1 q.2 + wsm wt l'
  | [], _, _ => Or.inl trivial
  | q :: l, S, ⟨h1, h2, h3, h4, h5, h6⟩ => by
    by_cases hx : q.1 = x ∨ q.2 = x
    · exact Or.inr ⟨q, l, hx, h1, h2, h3, h4, h5, h6, rfl⟩
    · rcases mtc_split (wt := wt) x h6 with h | ⟨r, l', g0, g1, g2, g3, g4, g5, g6, g7⟩
      · refine Or.inl ⟨h1, h2, sm_t.mpr ⟨h3, fun e => hx (Or.inl e)⟩, sm_t.mpr ⟨h4, fun e => hx (Or.inr e)⟩, h5, ?_⟩
        rw [sm_sw S x q.1, sm_sw (sm S q.1) x q.2]
        exact h
      · rw [sm_t, sm_t] at g3 g4
        refine Or.inr ⟨r, q :: l', g0, g1, g2, g3.1.1, g4.1.1, g5, ⟨h1, h2, ?_, ?_, h5, ?_⟩, ?_⟩
        · rw [sm_t, sm_t]
          exact ⟨⟨h3, fun e => g3.1.2 e.symm⟩, fun e => g4.1.2 e.symm⟩
        · rw [sm_t, sm_t]
          exact ⟨⟨h4, fun e => g3.2 e.symm⟩, fun e => g4.2 e.symm⟩
        · have e : sm (sm (sm (sm S r.1) r.2) q.1) q.2 = sm (sm (sm (sm S q.1) q.2) r.1) r.2 := by
            rw [sm_sw (sm S r.1) r.2 q.1, sm_sw S r.1 q.1, sm_sw (sm (sm S q.1) r.1) r.2 q.2, sm_sw (sm S q.1) r.1 q.2]
          rw [e]
          exact g6
        · show wt q.1 q.2 + wsm wt l = wt r.1 r.2 + (wt q.1 q.2 + wsm wt l')
          omega
def mxF (p : Nat → Bool) (v : Nat → Nat) (acc j : Nat) : Nat := if p j = true then (if acc < v j then v j else acc) else acc
theorem mxF_spec {n : Nat} {p : Nat → Bool} {v : Nat → Nat} : ∀ i, i ≤ n → ∀ acc, acc ≤ fld n i (mxF p v) acc ∧ (∀ b, i ≤ b → b < n → p b = true → v b ≤ fld n i (mxF p v) acc) ∧ (fld n i (mxF p v) acc = acc ∨ ∃ b, i ≤ b ∧ b < n ∧ p b = true ∧ fld n i (mxF p v) acc = v b) := by
  refine loop_up ?_ (fun i hi ih => ?_)
  · intro acc
    rw [fld_end (Nat.le_refl _)]
    exact ⟨Nat.le_refl _, fun b h1 h2 => absurd h1 (by omega), Or.inl rfl⟩
  · intro acc
    rw [fld_step hi]
    obtain ⟨h1, h2, h3⟩ := ih (mxF p v acc i)
    have h0 : acc ≤ mxF p v acc i ∧ (p i = true → v i ≤ mxF p v acc i) ∧ (mxF p v acc i = acc ∨ (p i = true ∧ mxF p v acc i = v i)) := by
      unfold mxF
      by_cases hp : p i = true
      · rw [if_pos hp]
        by_cases hv : acc < v i
        · rw [if_pos hv]
          exact ⟨by omega, fun _ => Nat.le_refl _, Or.inr ⟨hp, rfl⟩⟩
        · rw [if_neg hv]
          exact ⟨Nat.le_refl _, fun _ => by omega, Or.inl rfl⟩
      · rw [if_neg hp]
        exact ⟨Nat.le_refl _, fun q => absurd q hp, Or.inl rfl⟩
    refine ⟨by omega, fun b b1 b2 b3 => ?_, ?_⟩
    · by_cases e : b = i
      · subst e
        have := h0.2.1 b3
        omega
      · exact h2 b (by omega) b2 b3
    · rcases h3 with h3 | ⟨b, b1, b2, b3, b4⟩
      · rcases h0.2.2 with q | ⟨q1, q2⟩
        · exact Or.inl (by rw [h3, q])
        · exact Or.inr ⟨i, Nat.le_refl _, hi, q1, by rw [h3, q2]⟩
      · exact Or.inr ⟨b, by omega, b2, b3, b4⟩
theorem hmF_mx {wt : Nat → Nat → Nat} {ok : Nat → Nat → Bool} {T : (Nat → Bool) → Nat} {S : Nat → Bool} {a : Nat} : hmF wt ok T S a = mxF (fun b => S b && ok a b) (fun b => T (sm S b) + wt a b) := by
  funext acc b
  unfold hmF mxF
  by_cases h : S b = true ∧ ok a b = true
  · have h' : (S b && ok a b) = true := by rw [Bool.and_eq_true]; exact h
    rw [if_pos h]
    exact (if_pos h').symm
  · have h' : ¬ (S b && ok a b) = true := by rw [Bool.and_eq_true]; exact h
    rw [if_neg h]
    exact (if_neg h').symm
theorem hT_max {wt : Nat → Nat → Nat} {ok : Nat → Nat → Bool} {n : Nat} : ∀ (N : Nat) (S : Nat → Bool), cntF S n ≤ N → (∀ v, ach wt ok n S v → v ≤ hT wt ok n S) ∧ ach wt ok n S (hT wt ok n S) := by
  have emp : ∀ S : Nat → Bool, (∀ p, p < n → S p = false) → (∀ v, ach wt ok n S v → v ≤ hT wt ok n S) ∧ ach wt ok n S (hT wt ok n S) := by
    intro S h
    rw [hT_0 h]
    refine ⟨?_, [], trivial, rfl⟩
    rintro v ⟨l, h1, rfl⟩
    cases l with
    | nil => exact Nat.le_refl _
    | cons q l =>
      obtain ⟨g1, g2, -, g4, -⟩ := h1
      rw [h _ g2] at g4
      cases g4
  intro N
  induction N with
  | zero =>
    intro S h
    refine emp S (fun p hp => ?_)
    cases e : S p with
    | false => rfl
    | true =>
      have := cntF_pos hp e
      omega
  | succ N ih =>
    intro S h
    cases e : fnd n 0 S with
    | none => exact emp S (fun p hp => fnd_none.mp e p (by omega) hp)
    | some a =>
      obtain ⟨-, ha, hS, hl⟩ := fnd_some e
      have c1 : cntF (sm S a) n + 1 = cntF S n := cntF_set S a hS ha
      obtain ⟨i1, i2⟩ := ih (sm S a) (by omega)
      rw [hT_rec ha hS (fun p hp => hl p (by omega) hp), hmF_mx]
      obtain ⟨m1, m2, m3⟩ := mxF_spec (n := n) (p := fun b => sm S a b && ok a b) (v := fun b => hT wt ok n (sm (sm S a) b) + wt a b) (a + 1) (by omega) (hT wt ok n (sm S a))
      have ihb : ∀ b, b < n → sm S a b = true → (∀ v, ach wt ok n (sm (sm S a) b) v → v ≤ hT wt ok n (sm (sm S a) b)) ∧ ach wt ok n (sm (sm S a) b) (hT wt ok n (sm (sm S a) b)) := by
        intro b hb hsb
        have c2 : cntF (sm (sm S a) b) n + 1 = cntF (sm S a) n := cntF_set (sm S a) b hsb hb
        exact ih _ (by omega)
      constructor
      · rintro v ⟨l, h1, rfl⟩
        rcases mtc_split (wt := wt) a h1 with g | ⟨q, l', g0, g1, g2, g3, g4, g5, g6, g7⟩
        · exact Nat.le_trans (i1 _ ⟨l, g, rfl⟩) m1
        · have e1 : q.1 = a := by
            rcases g0 with q1 | q1
            · exact q1
            · rw [hl q.1 (by omega) (by omega)] at g3
              cases g3
          rw [e1] at g5 g6 g7 g1
          have hb : sm S a q.2 = true := sm_t.mpr ⟨g4, by omega⟩
          have k1 := (ihb q.2 g2 hb).1 _ ⟨l', g6, rfl⟩
          have k2 := m2 q.2 (by omega) g2 (by show (sm S a q.2 && ok a q.2) = true; rw [hb, g5]; rfl)
          have k2' : hT wt ok n (sm (sm S a) q.2) + wt a q.2 ≤ _ := k2
          omega
      · rcases m3 with g | ⟨b, b1, b2, b3, b4⟩
        · rw [g]
          obtain ⟨l, h1, h2⟩ := i2
          exact ⟨l, mtc_mono (fun i hi => (sm_t.mp hi).1) h1, h2⟩
        · rw [b4]
          have b3' : (sm S a b && ok a b) = true := b3
          rw [Bool.and_eq_true] at b3'
          obtain ⟨l, h1, h2⟩ := (ihb b b2 b3'.1).2
          exact ⟨(a, b) :: l, ⟨by show a < b; omega, b2, hS, (sm_t.mp b3'.1).1, b3'.2, h1⟩, by show wt a b + wsm wt l = _; omega⟩
theorem hT_sub {wt : Nat → Nat → Nat} {ok : Nat → Nat → Bool} {n : Nat} {S : Nat → Bool} {v : Nat} (h : ach wt ok n S v) : v ≤ hT wt ok n S := (hT_max _ S (Nat.le_refl _)).1 v h
theorem hT_ach {wt : Nat → Nat → Nat} {ok : Nat → Nat → Bool} {n : Nat} (S : Nat → Bool) : ach wt ok n S (hT wt ok n S) := (hT_max _ S (Nat.le_refl _)).2
theorem hT_high {wt : Nat → Nat → Nat} {ok : Nat → Nat → Bool} {n l : Nat} {R : Nat → Bool} (hl : l < n) (hR : ∀ i, l ≤ i → R i = false) : hT wt ok n (fun i => R i || decide (i = l)) = fld l 0 (mxF (fun o => R o && ok o l) (fun o => hT wt ok n (sm R o) + wt o l)) (hT wt ok n R) := by
  obtain ⟨m1, m2, m3⟩ := mxF_spec (n := l) (p := fun o => R o && ok o l) (v := fun o => hT wt ok n (sm R o) + wt o l) 0 (by omega) (hT wt ok n R)
  have eR : sm (fun i => R i || decide (i = l)) l = R := by
    funext i
    unfold sm
    by_cases e : i = l
    · subst e
      rw [hR i (Nat.le_refl _)]
      simp
    · simp [e]
  have sub : ∀ i, R i = true → (fun i => R i || decide (i = l)) i = true := fun i hi => by
    show (R i || decide (i = l)) = true
    rw [hi]
    rfl
  have hS : ∀ i, (fun i => R i || decide (i = l)) i = true → i ≠ l → R i = true := fun i hi hne => by
    have hi' : (R i || decide (i = l)) = true := hi
    rw [Bool.or_eq_true] at hi'
    exact hi'.resolve_right (by simp [hne])
  apply Nat.le_antisymm
  · obtain ⟨ll, h1, h2⟩ := hT_ach (wt := wt) (ok := ok) (n := n) (fun i => R i || decide (i = l))
    rw [← h2]
    rcases mtc_split (wt := wt) l h1 with g | ⟨q, l', g0, g1, g2, g3, g4, g5, g6, g7⟩
    · rw [eR] at g
      exact Nat.le_trans (hT_sub ⟨ll, g, rfl⟩) m1
    · have e1 : q.2 = l := by
        rcases g0 with q1 | q1
        · have := hS q.2 g4 (by omega)
          rw [hR q.2 (by omega)] at this
          cases this
        · exact q1
      rw [e1] at g5 g6 g7 g1
      rw [sm_sw, eR] at g6
      have hq : R q.1 = true := hS q.1 g3 (by omega)
      have k1 : wsm wt l' ≤ hT wt ok n (sm R q.1) := hT_sub ⟨l', g6, rfl⟩
      have k2 : hT wt ok n (sm R q.1) + wt q.1 l ≤ _ := m2 q.1 (by omega) g1 (by show (R q.1 && ok q.1 l) = true; rw [hq, g5]; rfl)
      omega
  · rcases m3 with g | ⟨o, o1, o2, o3, o4⟩
    · rw [g]
      obtain ⟨ll, h1, h2⟩ := hT_ach (wt := wt) (ok := ok) (n := n) R
      exact hT_sub ⟨ll, mtc_mono sub h1, h2⟩
    · rw [o4]
      have o3' : (R o && ok o l) = true := o3
      rw [Bool.and_eq_true] at o3'
      obtain ⟨ll, h1, h2⟩ := hT_ach (wt := wt) (ok := ok) (n := n) (sm R o)
      refine hT_sub ⟨(o, l) :: ll, ⟨o2, hl, sub o o3'.1, ?_, o3'.2, ?_⟩, ?_⟩
      · show (R l || decide (l = l)) = true
        simp
      · rw [sm_sw, eR]
        exact h1
      · show wt o l + wsm wt ll = _
        omega
theorem mask_x {S : Nat → Bool} {a n : Nat} (ha : a < n) (h : S a = true) : maskF S n ^^^ 2 ^ a = maskF (sm S a) n := Nat.eq_of_testBit_eq fun i => by
  rw [Nat.testBit_xor, tb_mask, tb_mask, Nat.testBit_two_pow]
  unfold sm
  by_cases e : i = a
  · subst e
    simp [ha, h]
  · have e' : ¬ a = i := fun q => e q.symm
    simp [e, e']
theorem lmax {a b : Nat} (ha : a < 2 ^ 63) (hb : b < 2 ^ 63) : (if lN b < lN a then lN a else lN b) = lN (if a < b then b else a) := by
  by_cases h : b < a
  · rw [if_pos ((pk_lLT hb ha).mpr h), if_neg (by omega)]
  · rw [if_neg (fun q => h ((pk_lLT hb ha).mp q))]
    by_cases h2 : a < b
    · rw [if_pos h2]
    · rw [if_neg h2]
      congr 1
      omega
