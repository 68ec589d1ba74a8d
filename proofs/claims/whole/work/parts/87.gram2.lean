/-! EXPR: how far it goes, how high its pile grows, that its fuel is enough -/
section T
variable {K V G : Nat → Nat} {lo hi : Nat}
def isM (md : Nat) : Prop := md ≤ 5 ∨ md = 10 ∨ md = 11 ∨ md = 13 ∨ md = 14
theorem nts_21 {c j i : Nat} (h : j ≤ i) (h2 : i < j + nts K c j) : K i ≠ 21 := by
  have := nts_is (K := K) (c := c) (j := j) (i := i - j) (by omega)
  rw [show j + (i - j) = i by omega] at this
  omega
theorem jn_21 {l k t : Nat} (h : jn l k = some t) : k ≠ 21 := by
  rintro rfl
  unfold jn at h
  simp at h
/-- what of the token a part takes -/
theorem px_adv : ∀ (f md wi j j2 : Nat) (R : RP), isM md → px K V G lo hi f md wi j = .inr (j2, R) → (md ≤ 5 → j < j2) ∧ R.length + j ≤ j2 ∧ ∀ i, j ≤ i → i < j2 → K i ≠ 21 := by
  intro f
  induction f with
  | zero => intro md wi j j2 R _ h; cases h
  | succ f ih =>
    intro md wi j j2 R hm h
    by_cases h5 : md = 5
    · subst h5
      rw [px_5] at h
      unfold ppt at h
      by_cases k20 : K j = 20
      · rw [if_pos k20] at h
        split at h
        · cases h
        · cases h
          refine ⟨fun _ => Nat.lt_succ_self _, by show 1 + j ≤ j + 1; omega, fun i h1 h2 => ?_⟩
          rw [show i = j by omega, k20]
          omega
      · rw [if_neg k20] at h
        by_cases k40 : K j = 40
        · rw [if_pos k40] at h
          split at h
          · cases h
          · obtain ⟨j3, R3, e1, e2⟩ := rb_inr h
            split at e2
            · rename_i k41
              cases e2
              obtain ⟨g1, g2, g3⟩ := ih 0 (wi + 1) (j + 1) j3 R (Or.inl (by omega)) e1
              have := g1 (by omega)
              refine ⟨fun _ => by omega, by omega, fun i h1 h2 => ?_⟩
              by_cases e : i = j
              · rw [e, k40]
                omega
              · by_cases e' : i = j3
                · rw [e', k41]
                  omega
                · exact g3 i (by omega) (by omega)
            · cases e2
        · rw [if_neg k40] at h
          by_cases k19 : K j ≤ 19
          · rw [if_pos k19] at h
            cases hmk : mk (K j) with
            | none => rw [hmk] at h; cases h
            | some v =>
              rw [hmk] at h
              have h' : (if lo ≤ v ∧ v ≤ hi then (Sum.inr (j + 1, [(2, v)]) : PR1) else .inl (3, j)) = .inr (j2, R) := h
              split at h'
              · cases h'
                refine ⟨fun _ => Nat.lt_succ_self _, by show 1 + j ≤ j + 1; omega, fun i h1 h2 => ?_⟩
                rw [show i = j by omega]
                omega
              · cases h'
          · rw [if_neg k19] at h
            cases h
    · by_cases h2 : md = 2
      · subst h2
        rw [px_2] at h
        split at h
        · cases h
        · obtain ⟨j3, R3, e1, e2⟩ := rb_inr h
          obtain ⟨g1, g2, g3⟩ := ih 3 wi _ j3 R3 (Or.inl (by omega)) e1
          have g1' := g1 (by omega)
          have bel : ∀ i, j ≤ i → i < j3 → K i ≠ 21 := fun i q1 q2 => by
            by_cases q : i < j + nts K 7 j
            · exact nts_21 q1 q
            · exact g3 i (by omega) q2
          cases hj : jn 2 (K j3) with
          | none =>
            rw [hj] at e2
            cases e2
            refine ⟨fun _ => by omega, ?_, bel⟩
            rw [List.length_append, List.length_replicate]
            omega
          | some t =>
            rw [hj] at e2
            obtain ⟨j4, R4, e3, e4⟩ := rb_inr e2
            cases e4
            obtain ⟨q1, q2, q3⟩ := ih 3 wi _ j2 R4 (Or.inl (by omega)) e3
            have q1' := q1 (by omega)
            refine ⟨fun _ => by omega, ?_, fun i w1 w2 => ?_⟩
            · rw [List.length_append, List.length_append, List.length_cons, List.length_replicate]
              omega
            · by_cases w : i < j3
              · exact bel i w1 w
              · by_cases w' : i = j3
                · rw [w']
                  exact jn_21 hj
                · exact q3 i (by omega) w2
      · by_cases hT : 10 ≤ md
        · obtain ⟨l, rfl⟩ : ∃ l, md = l + 10 := ⟨md - 10, by omega⟩
          have hl : l = 0 ∨ l = 1 ∨ l = 3 ∨ l = 4 := by unfold isM at hm; omega
          rw [px_T hl] at h
          cases hj : jn l (K j) with
          | none =>
            rw [hj] at h
            cases h
            exact ⟨fun q => absurd q (by omega), by show 0 + j ≤ j; omega, fun i q1 q2 => absurd q2 (by omega)⟩
          | some t =>
            rw [hj] at h
            obtain ⟨j3, R3, e1, e2⟩ := rb_inr h
            obtain ⟨j4, R4, e3, e4⟩ := rb_inr e2
            cases e4
            obtain ⟨g1, g2, g3⟩ := ih (l + 1) wi _ j3 R3 (Or.inl (by omega)) e1
            obtain ⟨q1, q2, q3⟩ := ih (l + 10) wi _ j2 R4 hm e3
            have g1' := g1 (by omega)
            refine ⟨fun q => absurd q (by omega), ?_, fun i w1 w2 => ?_⟩
            · rw [List.length_append, List.length_cons]
              omega
            · by_cases w : i = j
              · rw [w]
                exact jn_21 hj
              · by_cases w' : i < j3
                · exact g3 i (by omega) w'
                · exact q3 i (by omega) w2
        · have hl : md = 0 ∨ md = 1 ∨ md = 3 ∨ md = 4 := by unfold isM at hm; omega
          rw [px_L hl] at h
          obtain ⟨j3, R3, e1, e2⟩ := rb_inr h
          obtain ⟨j4, R4, e3, e4⟩ := rb_inr e2
          cases e4
          obtain ⟨g1, g2, g3⟩ := ih (md + 1) wi _ j3 R3 (Or.inl (by omega)) e1
          obtain ⟨q1, q2, q3⟩ := ih (md + 10) wi _ j2 R4 (by unfold isM; omega) e3
          have g1' := g1 (by omega)
          refine ⟨fun _ => by omega, ?_, fun i w1 w2 => ?_⟩
          · rw [List.length_append]
            omega
          · by_cases w' : i < j3
            · exact g3 i (by omega) w'
            · exact q3 i (by omega) w2
def rk (md : Nat) : Nat := if md ≤ 5 then 8 - md else 1
theorem rk_pos {md : Nat} : 1 ≤ rk md := by unfold rk; split <;> omega
/-- fuel is enough -/
theorem px_fuel {m : Nat} (hE : K m = 21) : ∀ (f md wi j : Nat), isM md → j ≤ m → 12 * (m - j) + rk md ≤ f → ∀ jf, px K V G lo hi f md wi j ≠ .inl (99, jf) := by
  intro f
  induction f with
  | zero => intro md wi j _ _ h; have := rk_pos (md := md); omega
  | succ f ih =>
    intro md wi j hm hj hf jf h
    have nx : ∀ {i}, i ≤ m → K i ≠ 21 → i + 1 ≤ m := fun {i} h1 h2 => by
      by_cases e : i = m
      · subst e
        exact absurd hE h2
      · omega
    have ad : ∀ {md wi j j2 R}, isM md → j ≤ m → px K V G lo hi f md wi j = .inr (j2, R) → j2 ≤ m ∧ j ≤ j2 ∧ (md ≤ 5 → j < j2) := fun {md wi j j2 R} h1 h2 h3 => by
      obtain ⟨g1, g2, g3⟩ := px_adv f md wi j j2 R h1 h3
      refine ⟨?_, by omega, g1⟩
      apply Nat.not_lt.mp
      intro q
      exact g3 m h2 q hE
    by_cases h5 : md = 5
    · subst h5
      rw [px_5] at h
      unfold ppt at h
      split at h
      · split at h
        · cases h
        · cases h
      · split at h
        · rename_i k40
          split at h
          · split at h
            · cases h
            · cases h
          · rcases rb_inl h with e1 | ⟨j3, R3, e1, e2⟩
            · have := nx hj (by rw [k40]; omega)
              exact ih 0 (wi + 1) (j + 1) (Or.inl (by omega)) this (by have : rk 0 = 8 := rfl; have : rk 5 = 3 := rfl; omega) jf e1
            · split at e2
              · cases e2
              · cases e2
        · split at h
          · cases hmk : mk (K j) with
            | none => rw [hmk] at h; cases h
            | some v =>
              rw [hmk] at h
              have h' : (if lo ≤ v ∧ v ≤ hi then (Sum.inr (j + 1, [(2, v)]) : PR1) else .inl (3, j)) = .inl (99, jf) := h
              split at h'
              · cases h'
              · cases h'
          · cases h
    · by_cases h2 : md = 2
      · subst h2
        have r2 : rk 2 = 6 := rfl
        have r3 : rk 3 = 5 := rfl
        have jl : j + nts K 7 j ≤ m := by
          apply Nat.not_lt.mp
          intro q
          exact nts_21 (c := 7) hj q hE
        rw [px_2] at h
        split at h
        · cases h
        · rcases rb_inl h with e1 | ⟨j3, R3, e1, e2⟩
          · exact ih 3 wi _ (Or.inl (by omega)) jl (by omega) jf e1
          · obtain ⟨a1, a2, a3⟩ := ad (Or.inl (by omega)) jl e1
            cases hjn : jn 2 (K j3) with
            | none => rw [hjn] at e2; cases e2
            | some t =>
              rw [hjn] at e2
              rcases rb_inl e2 with e3 | ⟨j4, R4, e3, e4⟩
              · exact ih 3 wi _ (Or.inl (by omega)) (nx a1 (jn_21 hjn)) (by have := a3 (by omega); omega) jf e3
              · cases e4
      · by_cases hT : 10 ≤ md
        · obtain ⟨l, rfl⟩ : ∃ l, md = l + 10 := ⟨md - 10, by omega⟩
          have hl : l = 0 ∨ l = 1 ∨ l = 3 ∨ l = 4 := by unfold isM at hm; omega
          have rT : rk (l + 10) = 1 := by unfold rk; rw [if_neg (by omega)]
          have rL : rk (l + 1) ≤ 8 := by unfold rk; split <;> omega
          rw [px_T hl] at h
          cases hjn : jn l (K j) with
          | none => rw [hjn] at h; cases h
          | some t =>
            rw [hjn] at h
            have j1 := nx hj (jn_21 hjn)
            rcases rb_inl h with e1 | ⟨j3, R3, e1, e2⟩
            · exact ih (l + 1) wi _ (Or.inl (by omega)) j1 (by omega) jf e1
            · obtain ⟨a1, a2, a3⟩ := ad (Or.inl (by omega)) j1 e1
              rcases rb_inl e2 with e3 | ⟨j4, R4, e3, e4⟩
              · exact ih (l + 10) wi _ hm a1 (by omega) jf e3
              · cases e4
        · have hl : md = 0 ∨ md = 1 ∨ md = 3 ∨ md = 4 := by unfold isM at hm; omega
          have rT : rk (md + 10) = 1 := by unfold rk; rw [if_neg (by omega)]
          have rL : rk (md + 1) + 1 = rk md := by rcases hl with rfl | rfl | rfl | rfl <;> rfl
          rw [px_L hl] at h
          rcases rb_inl h with e1 | ⟨j3, R3, e1, e2⟩
          · exact ih (md + 1) wi _ (Or.inl (by omega)) hj (by omega) jf e1
          · obtain ⟨a1, a2, a3⟩ := ad (Or.inl (by omega)) hj e1
            have := a3 (by omega)
            rcases rb_inl e2 with e3 | ⟨j4, R4, e3, e4⟩
            · exact ih (md + 10) wi _ (by unfold isM; omega) a1 (by omega) jf e3
            · cases e4
theorem rpok_3 {m h : Nat} {S : RP} (hh1 : 1 ≤ h) (hS : rpok lo hi m S h) : ∀ a, rpok lo hi m (List.replicate a (3, 0) ++ S) h
  | 0 => hS
  | a + 1 => Or.inr (Or.inr (Or.inl ⟨rfl, hh1, rpok_3 hh1 hS a⟩))
theorem rpok_op {m h t : Nat} {S : RP} (t4 : 4 ≤ t) (t11 : t ≤ 11) (hh1 : 2 ≤ h) (hS : rpok lo hi m S (h - 1)) : rpok lo hi m ((t, 0) :: S) h := Or.inr (Or.inr (Or.inr ⟨t4, t11, hh1, hS⟩))
theorem jn_4 {l k t : Nat} (h : jn l k = some t) : 4 ≤ t ∧ t ≤ 11 := by
  unfold jn at h
  repeat' split at h
  all_goals first | (cases h; omega) | cases h
/-- the pile -/
theorem px_pile (hV : ∀ j, K j = 20 → G j ≤ 4 → V j < 10000) : ∀ (f md wi j j2 : Nat) (R : RP), isM md → wi ≤ 5 → px K V G lo hi f md wi j = .inr (j2, R) → ∀ (h : Nat) (S : RP), rpok lo hi 36 S (h + 1) → h + 31 ≤ 36 + 5 * wi + (if md ≤ 5 then md else md - 10) → rpok lo hi 36 (R ++ S) (if md ≤ 5 then h else h + 1) := by
  intro f
  induction f with
  | zero => intro md wi j j2 R _ _ h; cases h
  | succ f ih =>
    intro md wi j j2 R hm hw h h0 S hS hB
    by_cases h5 : md = 5
    · subst h5
      rw [if_pos (by omega)] at hB ⊢
      rw [px_5] at h
      unfold ppt at h
      by_cases k20 : K j = 20
      · rw [if_pos k20] at h
        split at h
        · cases h
        · cases h
          exact Or.inl ⟨rfl, hV j k20 (by omega), by omega, hS⟩
      · rw [if_neg k20] at h
        by_cases k40 : K j = 40
        · rw [if_pos k40] at h
          split at h
          · cases h
          · obtain ⟨j3, R3, e1, e2⟩ := rb_inr h
            split at e2
            · cases e2
              have := ih 0 (wi + 1) (j + 1) j3 R (Or.inl (by omega)) (by omega) e1 h0 S hS
              rw [if_pos (by omega), if_pos (by omega)] at this
              exact this (by omega)
            · cases e2
        · rw [if_neg k40] at h
          split at h
          · cases hmk : mk (K j) with
            | none => rw [hmk] at h; cases h
            | some v =>
              rw [hmk] at h
              have h' : (if lo ≤ v ∧ v ≤ hi then (Sum.inr (j + 1, [(2, v)]) : PR1) else .inl (3, j)) = .inr (j2, R) := h
              split at h'
              · rename_i q
                cases h'
                exact Or.inr (Or.inl ⟨rfl, q.1, q.2, by omega, hS⟩)
              · cases h'
          · cases h
    · by_cases h2 : md = 2
      · subst h2
        rw [if_pos (by omega)] at hB ⊢
        rw [px_2] at h
        split at h
        · cases h
        · obtain ⟨j3, R3, e1, e2⟩ := rb_inr h
          have i3 := ih 3 wi _ j3 R3 (Or.inl (by omega)) hw e1 h0
          cases hj : jn 2 (K j3) with
          | none =>
            rw [hj] at e2
            cases e2
            rw [List.append_assoc]
            have := i3 _ (rpok_3 (by omega) hS (nts K 7 j))
            rw [if_pos (by omega), if_pos (by omega)] at this
            exact this (by omega)
          | some t =>
            rw [hj] at e2
            obtain ⟨j4, R4, e3, e4⟩ := rb_inr e2
            cases e4
            have i4 := ih 3 wi _ j2 R4 (Or.inl (by omega)) hw e3 (h0 + 1) ((t, 0) :: (List.replicate (nts K 7 j) (3, 0) ++ S)) (rpok_op (jn_4 hj).1 (jn_4 hj).2 (by omega) (rpok_3 (by omega) hS _))
            rw [if_pos (by omega), if_pos (by omega)] at i4
            have := i3 _ (i4 (by omega))
            rw [if_pos (by omega), if_pos (by omega)] at this
            rw [List.append_assoc, List.append_assoc]
            exact this (by omega)
      · by_cases hT : 10 ≤ md
        · obtain ⟨l, rfl⟩ : ∃ l, md = l + 10 := ⟨md - 10, by omega⟩
          have hl : l = 0 ∨ l = 1 ∨ l = 3 ∨ l = 4 := by unfold isM at hm; omega
          rw [if_neg (by omega), Nat.add_sub_cancel] at hB
          rw [if_neg (by omega)]
          rw [px_T hl] at h
          cases hj : jn l (K j) with
          | none =>
            rw [hj] at h
            cases h
            exact hS
          | some t =>
            rw [hj] at h
            obtain ⟨j3, R3, e1, e2⟩ := rb_inr h
            obtain ⟨j4, R4, e3, e4⟩ := rb_inr e2
            cases e4
            have iT := ih (l + 10) wi _ j2 R4 hm hw e3 h0 S hS
            rw [if_neg (by omega), Nat.add_sub_cancel, if_neg (by omega)] at iT
            have iL := ih (l + 1) wi _ j3 R3 (Or.inl (by omega)) hw e1 (h0 + 1) ((t, 0) :: (R4 ++ S)) (rpok_op (jn_4 hj).1 (jn_4 hj).2 (by omega) (iT (by omega)))
            rw [if_pos (by omega), if_pos (by omega)] at iL
            rw [List.append_assoc]
            exact iL (by omega)
        · have hl : md = 0 ∨ md = 1 ∨ md = 3 ∨ md = 4 := by unfold isM at hm; omega
          have m5 : md ≤ 5 := by omega
          rw [if_pos m5] at hB ⊢
          rw [px_L hl] at h
          obtain ⟨j3, R3, e1, e2⟩ := rb_inr h
          obtain ⟨j4, R4, e3, e4⟩ := rb_inr e2
          cases e4
          have iT := ih (md + 10) wi _ j2 R4 (by unfold isM; omega) hw e3 h0 S hS
          rw [if_neg (by omega), Nat.add_sub_cancel, if_neg (by omega)] at iT
          have iL := ih (md + 1) wi _ j3 R3 (Or.inl (by omega)) hw e1 h0 (R4 ++ S) (iT (by omega))
          rw [if_pos (by omega), if_pos (by omega)] at iL
          rw [List.append_assoc]
          exact iL (by omega)
end T
/-- laid out -/
theorem code_at {f : Nat → Int32} : ∀ {R : RP} {O : List Nat}, OUT (O ++ enc R ++ [0]) f → codeAt f O.length R
  | [], O, h => h O.length 0 (by rw [show enc [] = [] from rfl, List.append_nil, List.getElem?_append_right (Nat.le_refl _), Nat.sub_self]; rfl)
  | q :: R, O, h => by
    have e : enc (q :: R) = (if q.1 ≤ 2 then [q.1, q.2] else [q.1]) ++ enc R := List.flatMap_cons
    rw [e] at h
    by_cases c : q.1 ≤ 2
    · rw [if_pos c] at h
      refine ⟨h O.length q.1 ?_, ?_⟩
      · rw [List.append_assoc, List.getElem?_append_right (Nat.le_refl _), Nat.sub_self]
        rfl
      · rw [if_pos c]
        refine ⟨h (O.length + 1) q.2 ?_, ?_⟩
        · rw [List.append_assoc, List.getElem?_append_right (by omega), show O.length + 1 - O.length = 1 by omega]
          rfl
        · have := code_at (f := f) (R := R) (O := O ++ [q.1, q.2]) (by rw [List.append_assoc O]; exact h)
          rw [List.length_append] at this
          exact this
    · rw [if_neg c] at h
      refine ⟨h O.length q.1 ?_, ?_⟩
      · rw [List.append_assoc, List.getElem?_append_right (Nat.le_refl _), Nat.sub_self]
        rfl
      · rw [if_neg c]
        have := code_at (f := f) (R := R) (O := O ++ [q.1]) (by rw [List.append_assoc O]; exact h)
        rw [List.length_append] at this
        exact this
theorem enc_len : ∀ (R : RP), (enc R).length ≤ 2 * R.length
  | [] => Nat.le_refl _
  | q :: R => by
    rw [show enc (q :: R) = (if q.1 ≤ 2 then [q.1, q.2] else [q.1]) ++ enc R from List.flatMap_cons, List.length_append, List.length_cons]
    have := enc_len R
    have : (if q.1 ≤ 2 then [q.1, q.2] else [q.1]).length ≤ 2 := by split <;> simp
    omega
theorem tkp_add {b : Nat → Nat} {n j : Nat} : ∀ k, (∀ i, j ≤ i → i < j + k → tK b n i ≠ 21) → tkp b n j + k ≤ tkp b n (j + k)
  | 0, _ => Nat.le_refl _
  | k + 1, h => by
    have h1 := tkp_add (b := b) (n := n) (j := j) k (fun i q1 q2 => h i q1 (by omega))
    have h2 := t_adv (h (j + k) (by omega) (by omega))
    show tkp b n j + (k + 1) ≤ tkp b n (j + k + 1)
    omega
theorem tK_n {b : Nat → Nat} {n : Nat} : tK b n n = 21 := by
  by_cases h : tK b n n = 21
  · exact h
  · have h1 := t_pos h
    have h2 := t_adv h
    omega
