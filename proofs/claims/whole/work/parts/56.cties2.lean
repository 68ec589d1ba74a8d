/-! the class: rings, steps, parts -/
theorem cntF_lt {S T : Nat → Bool} : ∀ {n : Nat}, (∀ x, x < n → S x = true → T x = true) → (∃ x, x < n ∧ T x = true ∧ S x = false) → cntF S n < cntF T n
  | 0, _, ⟨x, h, _⟩ => absurd h (by omega)
  | n + 1, h, ⟨x, hx, h1, h2⟩ => by
    have le : ∀ {n : Nat}, (∀ x, x < n → S x = true → T x = true) → cntF S n ≤ cntF T n := by
      intro n
      induction n with
      | zero => exact fun _ => Nat.le_refl _
      | succ n ih =>
        intro h
        have i1 := ih (fun x hx => h x (by omega))
        show cntF S n + _ ≤ cntF T n + _
        cases hs : S n with
        | false => simp; omega
        | true => rw [h n (by omega) hs]; omega
    show cntF S n + _ < cntF T n + _
    by_cases e : x = n
    · subst e
      have := le (n := x) (fun y hy => h y (by omega))
      rw [h1, h2]
      simp
      omega
    · have ih := cntF_lt (n := n) (fun y hy => h y (by omega)) ⟨x, by omega, h1, h2⟩
      cases hs : S n with
      | false => simp; omega
      | true => rw [h n (by omega) hs]; omega
section BFS
variable {n p : Nat} {R : Nat → Nat → Bool}
theorem img_iff {S : Nat → Bool} {x : Nat} : img n R S x = true ↔ ∃ r, r < n ∧ S r = true ∧ R r x = true := by
  unfold img
  rw [anyB_iff]
  constructor
  · rintro ⟨r, h1, h2⟩
    rw [Bool.and_eq_true] at h2
    exact ⟨r, h1, h2.1, h2.2⟩
  · rintro ⟨r, h1, h2, h3⟩
    exact ⟨r, h1, by rw [h2, h3]; rfl⟩
theorem rch_up {k x : Nat} (h : rch n R p k x = true) : rch n R p (k + 1) x = true := by
  show (rch n R p k x || _) = true
  rw [h]
  rfl
theorem rch_stab (hp : p < n) : ∀ k, (∀ x, x < n → rch n R p (k + 1) x = rch n R p k x) ∨ k + 2 ≤ cntF (rch n R p (k + 1)) n := by
  intro k
  have up : ∀ k, (∀ x, x < n → rch n R p (k + 1) x = rch n R p k x) ∨ cntF (rch n R p k) n < cntF (rch n R p (k + 1)) n := by
    intro k
    by_cases h : ∃ x, x < n ∧ rch n R p (k + 1) x = true ∧ rch n R p k x = false
    · exact Or.inr (cntF_lt (fun x _ hx => rch_up hx) h)
    · refine Or.inl (fun x hx => ?_)
      cases h1 : rch n R p k x with
      | true => exact rch_up h1
      | false =>
        cases h2 : rch n R p (k + 1) x with
        | false => rfl
        | true => exact absurd ⟨x, hx, h2, h1⟩ h
  induction k with
  | zero =>
    rcases up 0 with h | h
    · exact Or.inl h
    · have := cntF_pos (p := rch n R p 0) (n := n) (a := p) hp (by show decide (p = p) = true; simp)
      exact Or.inr (by omega)
  | succ k ih =>
    rcases ih with h | h
    · refine Or.inl (fun x hx => ?_)
      show (rch n R p (k + 1) x || img n R (rch n R p (k + 1)) x) = (rch n R p k x || img n R (rch n R p k) x)
      rw [h x hx]
      congr 1
      unfold img
      exact anyB_congr (fun r hr => by rw [h r hr])
    · rcases up (k + 1) with h2 | h2
      · exact Or.inl h2
      · exact Or.inr (by omega)
/-- n - 1 steps reach all -/
theorem rch_n (hp : p < n) : ∀ x, x < n → rch n R p n x = rch n R p (n - 1) x := by
  rcases rch_stab (R := R) hp (n - 1) with h | h
  · rw [show n - 1 + 1 = n by omega] at h
    exact h
  · have := cntF_le (rch n R p (n - 1 + 1)) n
    omega
theorem wlk_s {k x r : Nat} (hr : r < n) (h : wlk n R p k r = true) (h2 : R r x = true) : wlk n R p (k + 1) x = true := img_iff.mpr ⟨r, hr, h, h2⟩
/-- the edge of a search through rings -/
theorem ring_edge {l x : Nat} {E : Nat → Bool} (hl : 1 ≤ l) (hE : ∀ r, r < n → (E r = true ↔ wlk n R p l r = true ∧ ∀ j, 1 ≤ j → j < l → wlk n R p j r = false)) (hx : ∀ j, 1 ≤ j → j ≤ l → wlk n R p j x = false) : img n R E x = wlk n R p (l + 1) x := by
  apply Bool.eq_iff_iff.mpr
  constructor
  · intro h
    obtain ⟨r, hr, h1, h2⟩ := img_iff.mp h
    exact wlk_s hr ((hE r hr).mp h1).1 h2
  · intro h
    obtain ⟨r, hr, h1, h2⟩ := img_iff.mp h
    refine img_iff.mpr ⟨r, hr, (hE r hr).mpr ⟨h1, fun j hj hjl => ?_⟩, h2⟩
    cases hw : wlk n R p j r with
    | false => rfl
    | true =>
      have := wlk_s hr hw h2
      rw [hx (j + 1) (by omega) (by omega)] at this
      cases this
/-- the lesser of both -/
theorem ring_min {f : Nat → Bool} {best : Option Nat} (h1 : f 1 = false) (hb : ∀ z, best = some z → z ≤ n ∧ 2 ≤ z) : (fnd (best.getD (n + 1)) 1 f).or best = (match fnd (n + 1) 2 f with
    | none => best
    | some k => match best with
      | none => some k
      | some z => if k < z then some k else some z) := by
  cases hf : fnd (n + 1) 2 f with
  | none =>
    have hn := fnd_none.mp hf
    have : fnd (best.getD (n + 1)) 1 f = none := fnd_none.mpr (fun j h2 h3 => by
      by_cases e : j = 1
      · rw [e]; exact h1
      · refine hn j (by omega) ?_
        cases best with
        | none => exact h3
        | some z =>
          have := (hb z rfl).1
          have h4 : j < z := h3
          omega)
    rw [this]
    rfl
  | some k =>
    obtain ⟨g1, g2, g3, g4⟩ := fnd_some hf
    have low : ∀ j, 1 ≤ j → j < k → f j = false := fun j h2 h3 => by
      by_cases e : j = 1
      · rw [e]; exact h1
      · exact g4 j (by omega) h3
    cases best with
    | none =>
      rw [show fnd ((none : Option Nat).getD (n + 1)) 1 f = some k from fnd_is (by omega) g2 g3 low]
      rfl
    | some z =>
      show (fnd z 1 f).or (some z) = if k < z then some k else some z
      by_cases hkz : k < z
      · rw [if_pos hkz, fnd_is (by omega) hkz g3 low]
        rfl
      · rw [if_neg hkz, fnd_none.mpr (fun j h2 h3 => low j h2 (by omega))]
        rfl
end BFS
section C
variable {I : mj_I} {L : mj_L} {P : mj_P} {Q : mj_Q} {d n r t a b : Nat} {A : AS} {w : WT} {c h : Nat → Nat} {m : MM} {al : Nat → Nat → Int32}
theorem c_84 {x : Nat} {S : Nat → Bool} {R : Nat → Nat → Bool} (hP : PS t P) (hn : I 3 0 = nI n) (hn10 : n ≤ 10) (hx : mj_sh x = 1) (hx7 : x < 107) (lx : mj_ln x = 10) (hR : ∀ p, p < n → I x p = nI (maskF (R p) n)) (k : Q (.inl (some (.int (nI (maskF (img n R S) n))))) (107, I, L, P)) : mj_ev (d + 1) 84 [.ref 55, .ref x, .int (nI (maskF S n))] (107, I, L, P) Q := by
  refine ⟨rfl, ?_⟩
  have L5 : ∀ i, i ≤ n → mj_run (mj_ev d) k84 Q (k84 5) [some (.ref 55), some (.ref x), some (.int (nI (maskF S n))), some (.int (nI (maskF (fun y => false || anyB (fun r => S r && R r y) i) n))), some (.int (nI i))] [] (107, I, L, P) 0 0 := by
    refine loop_up ?_ (fun i hi ih => ?_)
    · refine q_3 rfl ?_
      refine q_5 rfl ?_
      refine q_33 rfl (by decide) (hP _ _ _ rfl) ?_
      first | refine q_31E rfl (by decide) hn ?_ | refine q_31 rfl (by decide) ?_
      refine q_geN (by omega) (by omega) (fun hh => ?_) (fun hh => absurd hh (by omega))
      refine q_3 rfl ?_
      refine q_26 ?_
      exact kQ k (congrArg nI (mask_congr (fun y _ => by rw [Bool.false_or]; rfl)))
    · have mi := mask_img (n := n) (S := S) (R := R) (B := fun _ => false) (i := i)
      have v1 := hR i hi
      cases hs : S i with
      | true =>
        rw [hs, if_pos rfl] at mi
        refine q_3 rfl ?_
        refine q_5 rfl ?_
        refine q_33 rfl (by decide) (hP _ _ _ rfl) ?_
        first | refine q_31E rfl (by decide) hn ?_ | refine q_31 rfl (by decide) ?_
        refine q_geN (by omega) (by omega) (fun hh => absurd hh (by omega)) (fun hh => ?_)
        refine q_3 rfl ?_
        refine q_3 rfl ?_
        first | refine q_bitT (by assumption) (by omega) (by omega) ?_ | refine q_bitF (by assumption) (by omega) (by omega) ?_ | refine q_bit (by omega) (by omega) ?_ | refine q_bitM (by first | omega | assumption) (by omega) ?_
        first | refine q_eqN0 (by omega) (fun hh => absurd hh (by omega)) (fun hh => ?_) | refine q_eqI0 (fun hh => absurd hh (by omega)) (fun hh => ?_)
        refine q_3 rfl ?_
        refine q_5 rfl ?_
        refine q_3 rfl ?_
        refine q_38E i hx hx7 rfl (by omega) (by omega) v1 ?_
        first | refine q_orN ?_ | refine q_11 rfl ?_
        refine q_6 rfl rfl rfl ?_
        first | refine q_inc rfl rfl rfl ?_ | refine q_9 rfl rfl rfl ?_
        refine q_23 ?_
        rw [mi]
        exact ih
      | false =>
        rw [hs, if_neg (by decide), Nat.or_zero] at mi
        rw [← mi] at ih
        refine q_3 rfl ?_
        refine q_5 rfl ?_
        refine q_33 rfl (by decide) (hP _ _ _ rfl) ?_
        first | refine q_31E rfl (by decide) hn ?_ | refine q_31 rfl (by decide) ?_
        refine q_geN (by omega) (by omega) (fun hh => absurd hh (by omega)) (fun hh => ?_)
        refine q_3 rfl ?_
        refine q_3 rfl ?_
        first | refine q_bitT (by assumption) (by omega) (by omega) ?_ | refine q_bitF (by assumption) (by omega) (by omega) ?_ | refine q_bit (by omega) (by omega) ?_ | refine q_bitM (by first | omega | assumption) (by omega) ?_
        first | refine q_eqN0 (by omega) (fun hh => ?_) (fun hh => absurd hh (by omega)) | refine q_eqI0 (fun hh => ?_) (fun hh => absurd (by omega) hh)
        first | refine q_inc rfl rfl rfl ?_ | refine q_9 rfl rfl rfl ?_
        refine q_23 ?_
        exact ih
  show mj_run (mj_ev d) k84 Q (k84 0) [some (.ref 55), some (.ref x), some (.int (nI (maskF S n))), none, none] [] (107, I, L, P) 0 0
  refine q_0 ?_
  refine q_6 rfl rfl rfl ?_
  refine q_0 ?_
  refine q_6 rfl rfl rfl ?_
  have := L5 0 (by omega)
  rw [show maskF (fun y => false || anyB (fun r => S r && R r y) 0) n = 0 from (mask_none n).symm] at this
  exact this
theorem c_80 {R : Nat → Nat → Bool} (hP : PS t P) (hn : I 3 0 = nI n) (hn10 : n ≤ 10) (hR : ∀ p, p < n → I 58 p = nI (maskF (R p) n)) (ha : a < n) (hRa : R a a = false) (k : Q (.inl (some (.int (mI (fnd (n + 1) 2 (fun j => wlk n R a j a)))))) (107, I, L, P)) : mj_ev (d + 2) 80 [.ref 55, .int (nI a)] (107, I, L, P) Q := by
  refine ⟨rfl, ?_⟩
  have v1 := hR a ha
  have w1 : ∀ x, x < n → wlk n R a 1 x = R a x := fun x hx => by
    apply Bool.eq_iff_iff.mpr
    show img n R (wlk n R a 0) x = true ↔ _
    rw [img_iff]
    constructor
    · rintro ⟨r, h1, h2, h3⟩
      have : r = a := of_decide_eq_true h2
      rw [← this]; exact h3
    · exact fun h => ⟨a, ha, by show decide (a = a) = true; simp, h⟩
  have L12 : ∀ l, l ≤ n + 1 → 2 ≤ l → ∀ (E B : Nat → Bool), (∀ x, x < n → (E x = true ↔ wlk n R a (l - 1) x = true ∧ ∀ j, 1 ≤ j → j < l - 1 → wlk n R a j x = false)) → (∀ x, x < n → (B x = true ↔ ∃ j, 1 ≤ j ∧ j < l ∧ wlk n R a j x = true)) → (∀ j, 1 ≤ j → j < l → wlk n R a j a = false) → fnd (n + 1) l (fun j => wlk n R a j a) = fnd (n + 1) 2 (fun j => wlk n R a j a) → mj_run (mj_ev (d + 1)) k80 Q (k80 12) [some (.ref 55), some (.int (nI a)), some (.int (nI (maskF B n))), some (.int (nI (maskF E n))), some (.int (nI l))] [] (107, I, L, P) 0 0 := by
    refine loop_up ?_ (fun l hl ih => ?_)
    · intro _ E B hE hB hA hf
      rw [fnd_end (Nat.le_refl _)] at hf
      refine q_3 rfl ?_
      refine q_5 rfl ?_
      refine q_33 rfl (by decide) (hP _ _ _ rfl) ?_
      first | refine q_31E rfl (by decide) hn ?_ | refine q_31 rfl (by decide) ?_
      refine q_gtN (by omega) (by omega) (fun hh => ?_) (fun hh => absurd hh (by omega))
      refine q_1 ?_
      refine q_26 ?_
      exact kQ k (by rw [← hf]; rfl)
    · intro h2 E B hE hB hA hf
      have edge : ∀ x, x < n → (∀ j, 1 ≤ j → j < l → wlk n R a j x = false) → img n R E x = wlk n R a l x := fun x hx hj => by
        have := ring_edge (n := n) (p := a) (R := R) (l := l - 1) (x := x) (by omega) hE (fun j h1 h3 => hj j h1 (by omega))
        rw [show l - 1 + 1 = l by omega] at this
        exact this
      have ea := edge a ha hA
      cases hw : wlk n R a l a with
      | true =>
        rw [fnd_yes hl hw] at hf
        rw [hw] at ea
        refine q_3 rfl ?_
        refine q_5 rfl ?_
        refine q_33 rfl (by decide) (hP _ _ _ rfl) ?_
        first | refine q_31E rfl (by decide) hn ?_ | refine q_31 rfl (by decide) ?_
        refine q_gtN (by omega) (by omega) (fun hh => absurd hh (by omega)) (fun hh => ?_)
        refine q_5 rfl ?_
        refine q_5 rfl ?_
        refine q_33 rfl (by decide) (hP _ _ _ rfl) ?_
        refine q_3 rfl ?_
        refine q_47 (mj_ev_mono _) [_, _] rfl rfl rfl (by decide) rfl rfl rfl ?_
        refine c_84 (n := n) (R := R) hP hn hn10 rfl (by decide) rfl hR ?_
        refine q_6 rfl rfl rfl ?_
        refine q_3 rfl ?_
        refine q_3 rfl ?_
        first | refine q_bitT (by assumption) (by omega) (by omega) ?_ | refine q_bitF (by assumption) (by omega) (by omega) ?_ | refine q_bit (by omega) (by omega) ?_ | refine q_bitM (by first | omega | assumption) (by omega) ?_
        first | refine q_eqN0 (by omega) (fun hh => absurd hh (by omega)) (fun hh => ?_) | refine q_eqI0 (fun hh => absurd hh (by omega)) (fun hh => ?_)
        refine q_3 rfl ?_
        refine q_26 ?_
        exact kQ k (by rw [← hf]; rfl)
      | false =>
        rw [fnd_no hl hw] at hf
        rw [hw] at ea
        have notB : ∀ x, x < n → (B x = false ↔ ∀ j, 1 ≤ j → j < l → wlk n R a j x = false) := fun x hx => by
          constructor
          · intro hb j h1 h3
            cases hj : wlk n R a j x with
            | false => rfl
            | true => rw [(hB x hx).mpr ⟨j, h1, h3, hj⟩] at hb; cases hb
          · intro hj
            cases hb : B x with
            | false => rfl
            | true =>
              obtain ⟨j, h1, h3, h4⟩ := (hB x hx).mp hb
              rw [hj j h1 h3] at h4
              cases h4
        refine q_3 rfl ?_
        refine q_5 rfl ?_
        refine q_33 rfl (by decide) (hP _ _ _ rfl) ?_
        first | refine q_31E rfl (by decide) hn ?_ | refine q_31 rfl (by decide) ?_
        refine q_gtN (by omega) (by omega) (fun hh => absurd hh (by omega)) (fun hh => ?_)
        refine q_5 rfl ?_
        refine q_5 rfl ?_
        refine q_33 rfl (by decide) (hP _ _ _ rfl) ?_
        refine q_3 rfl ?_
        refine q_47 (mj_ev_mono _) [_, _] rfl rfl rfl (by decide) rfl rfl rfl ?_
        refine c_84 (n := n) (R := R) hP hn hn10 rfl (by decide) rfl hR ?_
        refine q_6 rfl rfl rfl ?_
        refine q_3 rfl ?_
        refine q_3 rfl ?_
        first | refine q_bitT (by assumption) (by omega) (by omega) ?_ | refine q_bitF (by assumption) (by omega) (by omega) ?_ | refine q_bit (by omega) (by omega) ?_ | refine q_bitM (by first | omega | assumption) (by omega) ?_
        first | refine q_eqN0 (by omega) (fun hh => ?_) (fun hh => absurd hh (by omega)) | refine q_eqI0 (fun hh => ?_) (fun hh => absurd (by omega) hh)
        refine q_3 rfl ?_
        refine q_3 rfl ?_
        refine q_andnot ?_
        rw [mask_diff]
        refine q_6 rfl rfl rfl ?_
        refine q_3 rfl ?_
        refine q_3 rfl ?_
        refine q_orN ?_
        rw [mask_or]
        refine q_6 rfl rfl rfl ?_
        first | refine q_inc rfl rfl rfl ?_ | refine q_9 rfl rfl rfl ?_
        refine q_23 ?_
        refine ih (by omega) (fun i => img n R E i && !B i) (fun i => B i || (img n R E i && !B i)) (fun x hx => ?_) (fun x hx => ?_) (fun j h1 h3 => ?_) hf
        · rw [Nat.add_sub_cancel, Bool.and_eq_true, Bool.not_eq_true', notB x hx]
          exact ⟨fun ⟨z1, z2⟩ => ⟨by rw [edge x hx z2] at z1; exact z1, z2⟩, fun ⟨z1, z2⟩ => ⟨by rw [edge x hx z2]; exact z1, z2⟩⟩
        · cases hb : B x with
          | true =>
            obtain ⟨j, z1, z2, z3⟩ := (hB x hx).mp hb
            exact ⟨fun _ => ⟨j, z1, by omega, z3⟩, fun _ => rfl⟩
          | false =>
            have z := (notB x hx).mp hb
            rw [edge x hx z]
            simp
            exact ⟨fun z1 => ⟨l, by omega, by omega, z1⟩, fun ⟨j, z1, z2, z3⟩ => by
              by_cases e : j = l
              · rw [← e]; exact z3
              · rw [z j z1 (by omega)] at z3; cases z3⟩
        · by_cases e : j = l
          · rw [e]; exact hw
          · exact hA j h1 (by omega)
  show mj_run (mj_ev (d + 1)) k80 Q (k80 0) [some (.ref 55), some (.int (nI a)), none, none, none] [] (107, I, L, P) 0 0
  refine q_5 rfl ?_
  refine q_33 rfl (by decide) (hP _ _ _ rfl) ?_
  refine q_3 rfl ?_
  first | refine q_38E _ rfl (by decide) rfl (by show _ < 10; omega) (by decide) (v1) ?_ | refine q_38 _ rfl (by decide) rfl (by show _ < 10; omega) (by decide) ?_
  refine q_6 rfl rfl rfl ?_
  refine q_3 rfl ?_
  refine q_6 rfl rfl rfl ?_
  refine q_0 ?_
  refine q_6 rfl rfl rfl ?_
  refine L12 2 (by omega) (by omega) (R a) (R a) (fun x hx => ?_) (fun x hx => ?_) (fun j h1 h2 => ?_) rfl
  · rw [show 2 - 1 = 1 from rfl, w1 x hx]
    exact ⟨fun z => ⟨z, fun j z1 z2 => absurd z1 (by omega)⟩, fun z => z.1⟩
  · exact ⟨fun z => ⟨1, by omega, by omega, by rw [w1 x hx]; exact z⟩, fun ⟨j, z1, z2, z3⟩ => by
      obtain rfl : j = 1 := by omega
      rw [w1 x hx] at z3
      exact z3⟩
  · obtain rfl : j = 1 := by omega
    rw [w1 a ha]
    exact hRa
theorem rth_self {p : Nat} : rth w c h m p p = false := by
  unfold rth my
  simp
theorem c_79 (hP : PS t P) (hT : TI w c h I) (hn : I 3 0 = nI w.n) (hR : CW w.n 32 33 34 c h m I) (k : ∀ I', Eqf (frm [58] []) I I' → Q (.inl (some (.int (mI (rngS w.n (rth w c h m)))))) (107, I', L, P)) : mj_ev (d + 3) 79 [.ref 55] (107, I, L, P) Q := by
  refine ⟨rfl, ?_⟩
  have hn10 := hR.n10
  have L34 : ∀ I', Eqf (frm [58] []) I I' → (∀ p, p < w.n → I' 58 p = nI (maskF (rth w c h m p) w.n)) → ∀ p, p ≤ w.n → ∀ (best : Option Nat) x3, (∀ z, best = some z → z ≤ w.n ∧ 2 ≤ z) → fld w.n p (fun best p => (fnd (best.getD (w.n + 1)) 1 (fun k => wlk w.n (rth w c h m) p k p)).or best) best = rngS w.n (rth w c h m) → mj_run (mj_ev (d + 2)) k79 Q (k79 34) [some (.ref 55), some (.int (mI best)), some (.int (nI p)), x3] [] (107, I', L, P) 0 0 := by
    intro I' e' hW
    have hn' : I' 3 0 = nI w.n := (e' 3 0 rfl).trans hn
    refine loop_up ?_ (fun p hp ih => ?_)
    · intro best x3 hb hf
      rw [fld_end (Nat.le_refl _)] at hf
      refine q_3 rfl ?_
      refine q_5 rfl ?_
      refine q_33 rfl (by decide) (hP _ _ _ rfl) ?_
      first | refine q_31E rfl (by decide) hn' ?_ | refine q_31 rfl (by decide) ?_
      refine q_geN (by omega) (by omega) (fun hh => ?_) (fun hh => absurd hh (by omega))
      refine q_3 rfl ?_
      refine q_26 ?_
      exact kQ (k I' e') (by rw [hf])
    · intro best x3 hb hf
      have w1 : wlk w.n (rth w c h m) p 1 p = false := by
        cases hw : wlk w.n (rth w c h m) p 1 p with
        | false => rfl
        | true =>
          obtain ⟨r, h1, h2, h3⟩ := img_iff.mp (show img w.n (rth w c h m) (wlk w.n (rth w c h m) p 0) p = true from hw)
          have : r = p := of_decide_eq_true h2
          rw [this, rth_self] at h3
          cases h3
      rw [fld_step hp, ring_min w1 hb] at hf
      cases hq : fnd (w.n + 1) 2 (fun k => wlk w.n (rth w c h m) p k p) with
      | none =>
        rw [hq] at hf
        refine q_3 rfl ?_
        refine q_5 rfl ?_
        refine q_33 rfl (by decide) (hP _ _ _ rfl) ?_
        first | refine q_31E rfl (by decide) hn' ?_ | refine q_31 rfl (by decide) ?_
        refine q_geN (by omega) (by omega) (fun hh => absurd hh (by omega)) (fun hh => ?_)
        refine q_5 rfl ?_
        refine q_3 rfl ?_
        refine q_47 (mj_ev_mono _) [_] rfl rfl rfl (by decide) rfl rfl rfl ?_
        refine c_80 (n := w.n) (R := rth w c h m) hP hn' hn10 hW hp rth_self ?_
        rw [hq]
        refine q_6 rfl rfl rfl ?_
        refine q_3 rfl ?_
        refine q_1 ?_
        refine q_eqI (fun _ => ?_) (fun z => absurd rfl z)
        first | refine q_inc rfl rfl rfl ?_ | refine q_9 rfl rfl rfl ?_
        refine q_23 ?_
        exact ih best _ hb hf
      | some l =>
        rw [hq] at hf
        obtain ⟨l2, ln, -, -⟩ := fnd_some hq
        cases best with
        | none =>
          refine q_3 rfl ?_
          refine q_5 rfl ?_
          refine q_33 rfl (by decide) (hP _ _ _ rfl) ?_
          first | refine q_31E rfl (by decide) hn' ?_ | refine q_31 rfl (by decide) ?_
          refine q_geN (by omega) (by omega) (fun hh => absurd hh (by omega)) (fun hh => ?_)
          refine q_5 rfl ?_
          refine q_3 rfl ?_
          refine q_47 (mj_ev_mono _) [_] rfl rfl rfl (by decide) rfl rfl rfl ?_
          refine c_80 (n := w.n) (R := rth w c h m) hP hn' hn10 hW hp rth_self ?_
          rw [hq]
          refine q_6 rfl rfl rfl ?_
          refine q_3 rfl ?_
          refine q_1 ?_
          refine q_eqI (fun z => absurd z (mI_ne (by omega))) (fun _ => ?_)
          refine q_3 rfl ?_
          refine q_1 ?_
          refine q_eqI (fun _ => ?_) (fun z => absurd rfl z)
          refine q_3 rfl ?_
          refine q_6 rfl rfl rfl ?_
          first | refine q_inc rfl rfl rfl ?_ | refine q_9 rfl rfl rfl ?_
          refine q_23 ?_
          exact ih (some l) _ (fun z e => by cases e; exact ⟨by omega, l2⟩) hf
        | some z =>
          obtain ⟨zn, z2⟩ := hb z rfl
          have hf2 : fld w.n (p + 1) (fun best p => (fnd (best.getD (w.n + 1)) 1 (fun k => wlk w.n (rth w c h m) p k p)).or best) (if l < z then some l else some z) = rngS w.n (rth w c h m) := hf
          by_cases hlz : l < z
          · rw [if_pos hlz] at hf2
            refine q_3 rfl ?_
            refine q_5 rfl ?_
            refine q_33 rfl (by decide) (hP _ _ _ rfl) ?_
            first | refine q_31E rfl (by decide) hn' ?_ | refine q_31 rfl (by decide) ?_
            refine q_geN (by omega) (by omega) (fun hh => absurd hh (by omega)) (fun hh => ?_)
            refine q_5 rfl ?_
            refine q_3 rfl ?_
            refine q_47 (mj_ev_mono _) [_] rfl rfl rfl (by decide) rfl rfl rfl ?_
            refine c_80 (n := w.n) (R := rth w c h m) hP hn' hn10 hW hp rth_self ?_
            rw [hq]
            refine q_6 rfl rfl rfl ?_
            refine q_3 rfl ?_
            refine q_1 ?_
            refine q_eqI (fun z => absurd z (mI_ne (by omega))) (fun _ => ?_)
            refine q_3 rfl ?_
            refine q_1 ?_
            refine q_eqI (fun z => absurd z (mI_ne (by omega))) (fun _ => ?_)
            refine q_3 rfl ?_
            refine q_3 rfl ?_
            refine q_geN (show l < 2 ^ 31 by omega) (show z < 2 ^ 31 by omega) (fun q => absurd q (by omega)) (fun _ => ?_)
            refine q_3 rfl ?_
            refine q_6 rfl rfl rfl ?_
            first | refine q_inc rfl rfl rfl ?_ | refine q_9 rfl rfl rfl ?_
            refine q_23 ?_
            exact ih (some l) _ (fun z e => by cases e; exact ⟨by omega, l2⟩) hf2
          · rw [if_neg hlz] at hf2
            refine q_3 rfl ?_
            refine q_5 rfl ?_
            refine q_33 rfl (by decide) (hP _ _ _ rfl) ?_
            first | refine q_31E rfl (by decide) hn' ?_ | refine q_31 rfl (by decide) ?_
            refine q_geN (by omega) (by omega) (fun hh => absurd hh (by omega)) (fun hh => ?_)
            refine q_5 rfl ?_
            refine q_3 rfl ?_
            refine q_47 (mj_ev_mono _) [_] rfl rfl rfl (by decide) rfl rfl rfl ?_
            refine c_80 (n := w.n) (R := rth w c h m) hP hn' hn10 hW hp rth_self ?_
            rw [hq]
            refine q_6 rfl rfl rfl ?_
            refine q_3 rfl ?_
            refine q_1 ?_
            refine q_eqI (fun z => absurd z (mI_ne (by omega))) (fun _ => ?_)
            refine q_3 rfl ?_
            refine q_1 ?_
            refine q_eqI (fun z => absurd z (mI_ne (by omega))) (fun _ => ?_)
            refine q_3 rfl ?_
            refine q_3 rfl ?_
            refine q_geN (show l < 2 ^ 31 by omega) (show z < 2 ^ 31 by omega) (fun _ => ?_) (fun q => absurd q (by omega))
            first | refine q_inc rfl rfl rfl ?_ | refine q_9 rfl rfl rfl ?_
            refine q_23 ?_
            exact ih (some z) _ hb hf2
  have L2 : ∀ i, i ≤ w.n → ∀ I', Eqf (frm [58] []) I I' → (∀ p, p < i → I' 58 p = nI (maskF (rth w c h m p) w.n)) → mj_run (mj_ev (d + 2)) k79 Q (k79 2) [some (.ref 55), some (.int (nI i)), none, none] [] (107, I', L, P) 0 0 := by
    refine loop_up ?_ (fun i hi ih => ?_)
    · intro I' e' hW
      have hn' : I' 3 0 = nI w.n := (e' 3 0 rfl).trans hn
      refine q_3 rfl ?_
      refine q_5 rfl ?_
      refine q_33 rfl (by decide) (hP _ _ _ rfl) ?_
      first | refine q_31E rfl (by decide) hn' ?_ | refine q_31 rfl (by decide) ?_
      refine q_geN (by omega) (by omega) (fun hh => ?_) (fun hh => absurd hh (by omega))
      refine q_1 ?_
      refine q_6 rfl rfl rfl ?_
      refine q_0 ?_
      refine q_6 rfl rfl rfl ?_
      exact L34 I' e' hW 0 (by omega) none _ (fun z e => by cases e) rfl
    · intro I' e' hW
      have hn' : I' 3 0 = nI w.n := (e' 3 0 rfl).trans hn
      refine q_3 rfl ?_
      refine q_5 rfl ?_
      refine q_33 rfl (by decide) (hP _ _ _ rfl) ?_
      first | refine q_31E rfl (by decide) hn' ?_ | refine q_31 rfl (by decide) ?_
      refine q_geN (by omega) (by omega) (fun hh => absurd hh (by omega)) (fun hh => ?_)
      refine q_5 rfl ?_
      refine q_33 rfl (by decide) (hP _ _ _ rfl) ?_
      refine q_3 rfl ?_
      refine q_5 rfl ?_
      refine q_3 rfl ?_
      refine q_47 (mj_ev_mono _) [_] rfl rfl rfl (by decide) rfl rfl rfl ?_
      refine c_73 (w := w) (c := c) (h := h) (m := m) hP ⟨fun p hp => (e' 56 p rfl).trans (hT.1 p hp), fun a b ha hb hab => (e' 57 _ rfl).trans (hT.2 a b ha hb hab)⟩ hn' (hR.fr (funext fun j => e' 32 j rfl) (funext fun j => e' 33 j rfl) (funext fun j => e' 34 j rfl)) hi ?_
      refine q_42 _ rfl (by decide) rfl (by show _ < 10; omega) (by decide) ?_
      first | refine q_inc rfl rfl rfl ?_ | refine q_9 rfl rfl rfl ?_
      refine q_23 ?_
      refine ih _ (e'.up rfl) (fun p hp => ?_)
      by_cases e : p = i
      · subst e
        exact upI_s
      · rw [upI_j e]
        exact hW p (by omega)
  show mj_run (mj_ev (d + 2)) k79 Q (k79 0) [some (.ref 55), none, none, none] [] (107, I, L, P) 0 0
  refine q_0 ?_
  refine q_6 rfl rfl rfl ?_
  exact L2 0 (by omega) I Eqf.rf (fun p hp => absurd hp (by omega))
theorem c_81 (hP : PS t P) (hT : TI w c h I) (hn : I 3 0 = nI w.n) (hn10 : w.n ≤ 10) (ha : a < w.n) (hb : b < w.n) (k : Q (.inl (some (.int (mI (fnd w.n 0 (fun j => rch w.n (my w c h) a j b)))))) (107, I, L, P)) : mj_ev (d + 2) 81 [.ref 55, .int (nI a), .int (nI b)] (107, I, L, P) Q := by
  refine ⟨rfl, ?_⟩
  have L10 : ∀ s, s ≤ w.n → ∀ (E : Nat → Bool), (∀ x, x < w.n → (E x = true ↔ rch w.n (my w c h) a s x = true ∧ (0 < s → rch w.n (my w c h) a (s - 1) x = false))) → (0 < s → rch w.n (my w c h) a (s - 1) b = false) → fnd w.n s (fun j => rch w.n (my w c h) a j b) = fnd w.n 0 (fun j => rch w.n (my w c h) a j b) → mj_run (mj_ev (d + 1)) k81 Q (k81 10) [some (.ref 55), some (.int (nI a)), some (.int (nI b)), some (.int (nI (maskF (rch w.n (my w c h) a s) w.n))), some (.int (nI (maskF E w.n))), some (.int (nI s))] [] (107, I, L, P) 0 0 := by
    refine loop_up ?_ (fun s hs ih => ?_)
    · intro E hE hB hf
      rw [fnd_end (Nat.le_refl _)] at hf
      refine q_3 rfl ?_
      refine q_5 rfl ?_
      refine q_33 rfl (by decide) (hP _ _ _ rfl) ?_
      first | refine q_31E rfl (by decide) hn ?_ | refine q_31 rfl (by decide) ?_
      refine q_geN (by omega) (by omega) (fun hh => ?_) (fun hh => absurd hh (by omega))
      refine q_1 ?_
      refine q_26 ?_
      exact kQ k (by rw [← hf]; rfl)
    · intro E hE hB hf
      have eb : E b = rch w.n (my w c h) a s b := Bool.eq_iff_iff.mpr ((hE b hb).trans ⟨fun z => z.1, fun z => ⟨z, hB⟩⟩)
      cases hw : rch w.n (my w c h) a s b with
      | true =>
        rw [fnd_yes hs hw] at hf
        rw [hw] at eb
        refine q_3 rfl ?_
        refine q_5 rfl ?_
        refine q_33 rfl (by decide) (hP _ _ _ rfl) ?_
        first | refine q_31E rfl (by decide) hn ?_ | refine q_31 rfl (by decide) ?_
        refine q_geN (by omega) (by omega) (fun hh => absurd hh (by omega)) (fun hh => ?_)
        refine q_3 rfl ?_
        refine q_3 rfl ?_
        first | refine q_bitT (by assumption) (by omega) (by omega) ?_ | refine q_bitF (by assumption) (by omega) (by omega) ?_ | refine q_bit (by omega) (by omega) ?_ | refine q_bitM (by first | omega | assumption) (by omega) ?_
        first | refine q_eqN0 (by omega) (fun hh => absurd hh (by omega)) (fun hh => ?_) | refine q_eqI0 (fun hh => absurd hh (by omega)) (fun hh => ?_)
        refine q_3 rfl ?_
        refine q_26 ?_
        exact kQ k (by rw [← hf]; rfl)
      | false =>
        rw [fnd_no hs hw] at hf
        rw [hw] at eb
        have key : ∀ x, x < w.n → rch w.n (my w c h) a s x = false → img w.n (my w c h) E x = img w.n (my w c h) (rch w.n (my w c h) a s) x := fun x hx hx0 => by
          apply Bool.eq_iff_iff.mpr
          rw [img_iff, img_iff]
          constructor
          · rintro ⟨r, h1, h2, h3⟩
            exact ⟨r, h1, ((hE r h1).mp h2).1, h3⟩
          · rintro ⟨r, h1, h2, h3⟩
            refine ⟨r, h1, (hE r h1).mpr ⟨h2, fun hs0 => ?_⟩, h3⟩
            cases hr : rch w.n (my w c h) a (s - 1) r with
            | false => rfl
            | true =>
              have : rch w.n (my w c h) a (s - 1 + 1) x = true := by
                show (_ || img w.n (my w c h) (rch w.n (my w c h) a (s - 1)) x) = true
                rw [img_iff.mpr ⟨r, h1, hr, h3⟩, Bool.or_true]
              rw [show s - 1 + 1 = s by omega, hx0] at this
              cases this
        refine q_3 rfl ?_
        refine q_5 rfl ?_
        refine q_33 rfl (by decide) (hP _ _ _ rfl) ?_
        first | refine q_31E rfl (by decide) hn ?_ | refine q_31 rfl (by decide) ?_
        refine q_geN (by omega) (by omega) (fun hh => absurd hh (by omega)) (fun hh => ?_)
        refine q_3 rfl ?_
        refine q_3 rfl ?_
        first | refine q_bitT (by assumption) (by omega) (by omega) ?_ | refine q_bitF (by assumption) (by omega) (by omega) ?_ | refine q_bit (by omega) (by omega) ?_ | refine q_bitM (by first | omega | assumption) (by omega) ?_
        first | refine q_eqN0 (by omega) (fun hh => ?_) (fun hh => absurd hh (by omega)) | refine q_eqI0 (fun hh => ?_) (fun hh => absurd (by omega) hh)
        refine q_5 rfl ?_
        refine q_5 rfl ?_
        refine q_33 rfl (by decide) (hP _ _ _ rfl) ?_
        refine q_3 rfl ?_
        refine q_47 (mj_ev_mono _) [_, _] rfl rfl rfl (by decide) rfl rfl rfl ?_
        refine c_84 (n := w.n) (R := my w c h) hP hn hn10 rfl (by decide) rfl hT.1 ?_
        refine q_3 rfl ?_
        refine q_andnot ?_
        rw [mask_diff]
        refine q_6 rfl rfl rfl ?_
        refine q_3 rfl ?_
        refine q_3 rfl ?_
        refine q_orN ?_
        rw [mask_or]
        refine q_6 rfl rfl rfl ?_
        first | refine q_inc rfl rfl rfl ?_ | refine q_9 rfl rfl rfl ?_
        refine q_23 ?_
        have e1 : maskF (fun i => rch w.n (my w c h) a s i || (img w.n (my w c h) E i && !rch w.n (my w c h) a s i)) w.n = maskF (rch w.n (my w c h) a (s + 1)) w.n := mask_congr (fun x hx => by
          show _ = (rch w.n (my w c h) a s x || img w.n (my w c h) (rch w.n (my w c h) a s) x)
          cases hx0 : rch w.n (my w c h) a s x with
          | true => rfl
          | false => rw [key x hx hx0]; simp)
        rw [e1]
        refine ih (fun i => img w.n (my w c h) E i && !rch w.n (my w c h) a s i) (fun x hx => ?_) (fun _ => hw) hf
        rw [Bool.and_eq_true, Bool.not_eq_true', Nat.add_sub_cancel]
        show _ ↔ (rch w.n (my w c h) a s x || img w.n (my w c h) (rch w.n (my w c h) a s) x) = true ∧ _
        constructor
        · rintro ⟨z1, z2⟩
          rw [key x hx z2] at z1
          exact ⟨by rw [z1, Bool.or_true], fun _ => z2⟩
        · rintro ⟨z1, z2⟩
          have z3 := z2 (by omega)
          rw [z3, Bool.false_or] at z1
          exact ⟨by rw [key x hx z3]; exact z1, z3⟩
  show mj_run (mj_ev (d + 1)) k81 Q (k81 0) [some (.ref 55), some (.int (nI a)), some (.int (nI b)), none, none, none] [] (107, I, L, P) 0 0
  refine q_0 ?_
  refine q_3 rfl ?_
  first | refine q_shl1 (by omega) ?_ | refine q_11 rfl ?_
  refine q_6 rfl rfl rfl ?_
  refine q_3 rfl ?_
  refine q_6 rfl rfl rfl ?_
  refine q_0 ?_
  refine q_6 rfl rfl rfl ?_
  rw [mask_one ha]
  exact L10 0 (by omega) (fun i => decide (i = a)) (fun x hx => ⟨fun z => ⟨z, fun q => absurd q (by omega)⟩, fun z => z.1⟩) (fun q => absurd q (by omega)) rfl
theorem c_83 (hP : PS t P) (hT : TI w c h I) (hn : I 3 0 = nI w.n) (hn10 : w.n ≤ 10) (ha : a < w.n) (k : Q (.inl (some (.int (nI (maskF (rch w.n (my w c h) a w.n) w.n))))) (107, I, L, P)) : mj_ev (d + 2) 83 [.ref 55, .int (nI a)] (107, I, L, P) Q := by
  refine ⟨rfl, ?_⟩
  have L6 : ∀ s, s ≤ w.n → 1 ≤ s → mj_run (mj_ev (d + 1)) k83 Q (k83 6) [some (.ref 55), some (.int (nI a)), some (.int (nI (maskF (rch w.n (my w c h) a (s - 1)) w.n))), some (.int (nI s))] [] (107, I, L, P) 0 0 := by
    refine loop_up ?_ (fun s hs ih => ?_)
    · intro _
      refine q_3 rfl ?_
      refine q_5 rfl ?_
      refine q_33 rfl (by decide) (hP _ _ _ rfl) ?_
      first | refine q_31E rfl (by decide) hn ?_ | refine q_31 rfl (by decide) ?_
      refine q_geN (by omega) (by omega) (fun hh => ?_) (fun hh => absurd hh (by omega))
      refine q_3 rfl ?_
      refine q_26 ?_
      exact kQ k (congrArg nI (mask_congr (fun x hx => (rch_n ha x hx).symm)))
    · intro h1
      obtain ⟨s', rfl⟩ : ∃ s', s = s' + 1 := ⟨s - 1, by omega⟩
      refine q_3 rfl ?_
      refine q_5 rfl ?_
      refine q_33 rfl (by decide) (hP _ _ _ rfl) ?_
      first | refine q_31E rfl (by decide) hn ?_ | refine q_31 rfl (by decide) ?_
      refine q_geN (by omega) (by omega) (fun hh => absurd hh (by omega)) (fun hh => ?_)
      refine q_3 rfl ?_
      refine q_5 rfl ?_
      refine q_5 rfl ?_
      refine q_33 rfl (by decide) (hP _ _ _ rfl) ?_
      refine q_3 rfl ?_
      refine q_47 (mj_ev_mono _) [_, _] rfl rfl rfl (by decide) rfl rfl rfl ?_
      refine c_84 (n := w.n) (R := my w c h) hP hn hn10 rfl (by decide) rfl hT.1 ?_
      refine q_orN ?_
      rw [mask_or]
      refine q_6 rfl rfl rfl ?_
      first | refine q_inc rfl rfl rfl ?_ | refine q_9 rfl rfl rfl ?_
      refine q_23 ?_
      exact ih (by omega)
  show mj_run (mj_ev (d + 1)) k83 Q (k83 0) [some (.ref 55), some (.int (nI a)), none, none] [] (107, I, L, P) 0 0
  refine q_0 ?_
  refine q_3 rfl ?_
  first | refine q_shl1 (by omega) ?_ | refine q_11 rfl ?_
  refine q_6 rfl rfl rfl ?_
  refine q_0 ?_
  refine q_6 rfl rfl rfl ?_
  rw [mask_one ha]
  exact L6 1 (by omega) (Nat.le_refl _)
theorem c_82 (hP : PS t P) (hT : TI w c h I) (hn : I 3 0 = nI w.n) (hn10 : w.n ≤ 10) (k : Q (.inl (some (.int (nI (crcS w.n (my w c h)))))) (107, I, L, P)) : mj_ev (d + 3) 82 [.ref 55] (107, I, L, P) Q := by
  refine ⟨rfl, ?_⟩
  have L6 : ∀ i, i ≤ w.n → ∀ (acc : Nat × (Nat → Bool)), (fld w.n i (crcF w.n (my w c h)) acc).1 = crcS w.n (my w c h) → mj_run (mj_ev (d + 2)) k82 Q (k82 6) [some (.ref 55), some (.int (nI acc.1)), some (.int (nI (maskF acc.2 w.n))), some (.int (nI i))] [] (107, I, L, P) 0 0 := by
    refine loop_up ?_ (fun i hi ih => ?_)
    · intro acc hf
      rw [fld_end (Nat.le_refl _)] at hf
      refine q_3 rfl ?_
      refine q_5 rfl ?_
      refine q_33 rfl (by decide) (hP _ _ _ rfl) ?_
      first | refine q_31E rfl (by decide) hn ?_ | refine q_31 rfl (by decide) ?_
      refine q_geN (by omega) (by omega) (fun hh => ?_) (fun hh => absurd hh (by omega))
      refine q_3 rfl ?_
      refine q_26 ?_
      exact kQ k (by rw [hf])
    · intro acc hf
      rw [fld_step hi] at hf
      cases hq : acc.2 i with
      | true =>
        rw [show crcF w.n (my w c h) acc i = acc from if_pos hq] at hf
        refine q_3 rfl ?_
        refine q_5 rfl ?_
        refine q_33 rfl (by decide) (hP _ _ _ rfl) ?_
        first | refine q_31E rfl (by decide) hn ?_ | refine q_31 rfl (by decide) ?_
        refine q_geN (by omega) (by omega) (fun hh => absurd hh (by omega)) (fun hh => ?_)
        refine q_3 rfl ?_
        refine q_3 rfl ?_
        first | refine q_bitT (by assumption) (by omega) (by omega) ?_ | refine q_bitF (by assumption) (by omega) (by omega) ?_ | refine q_bit (by omega) (by omega) ?_ | refine q_bitM (by first | omega | assumption) (by omega) ?_
        first | refine q_neN0 (by omega) (fun hh => ?_) (fun hh => absurd hh (by omega)) | refine q_neI0 (fun hh => ?_) (fun hh => absurd (by omega) hh)
        first | refine q_inc rfl rfl rfl ?_ | refine q_9 rfl rfl rfl ?_
        refine q_23 ?_
        exact ih acc hf
      | false =>
        rw [show crcF w.n (my w c h) acc i = (acc.1 + 1, fun x => acc.2 x || rch w.n (my w c h) i w.n x) from if_neg (by rw [hq]; decide)] at hf
        refine q_3 rfl ?_
        refine q_5 rfl ?_
        refine q_33 rfl (by decide) (hP _ _ _ rfl) ?_
        first | refine q_31E rfl (by decide) hn ?_ | refine q_31 rfl (by decide) ?_
        refine q_geN (by omega) (by omega) (fun hh => absurd hh (by omega)) (fun hh => ?_)
        refine q_3 rfl ?_
        refine q_3 rfl ?_
        first | refine q_bitT (by assumption) (by omega) (by omega) ?_ | refine q_bitF (by assumption) (by omega) (by omega) ?_ | refine q_bit (by omega) (by omega) ?_ | refine q_bitM (by first | omega | assumption) (by omega) ?_
        first | refine q_neN0 (by omega) (fun hh => absurd hh (by omega)) (fun hh => ?_) | refine q_neI0 (fun hh => absurd hh (by omega)) (fun hh => ?_)
        first | refine q_inc rfl rfl rfl ?_ | refine q_9 rfl rfl rfl ?_
        refine q_3 rfl ?_
        refine q_5 rfl ?_
        refine q_3 rfl ?_
        refine q_47 (mj_ev_mono _) [_] rfl rfl rfl (by decide) rfl rfl rfl ?_
        refine c_83 hP hT hn hn10 hi ?_
        first | refine q_orN ?_ | refine q_11 rfl ?_
        refine q_6 rfl rfl rfl ?_
        first | refine q_inc rfl rfl rfl ?_ | refine q_9 rfl rfl rfl ?_
        refine q_23 ?_
        rw [mask_or]
        exact ih (acc.1 + 1, fun x => acc.2 x || rch w.n (my w c h) i w.n x) hf
  show mj_run (mj_ev (d + 2)) k82 Q (k82 0) [some (.ref 55), none, none, none] [] (107, I, L, P) 0 0
  refine q_0 ?_
  refine q_6 rfl rfl rfl ?_
  refine q_0 ?_
  refine q_6 rfl rfl rfl ?_
  refine q_0 ?_
  refine q_6 rfl rfl rfl ?_
  have := L6 0 (by omega) (0, fun _ => false) rfl
  rw [← mask_none] at this
  exact this
end C
