/-! the model: the next fair that tells -/
def FS2 (c j : Nat) : Bool := c == 101 || c == 102
theorem FS2_fl {L1 L2 : mj_L} (e : EqL FS2 L1 L2) : EqL FL L1 L2 := e.mono (fun c j q => by
    unfold FS2
    unfold FL at q
    cases h1 : (c == 101) with
    | true =>
      obtain rfl := eq_of_beq h1
      exact absurd (show true = false from q) (by decide)
    | false =>
      cases h2 : (c == 102) with
      | true =>
        obtain rfl := eq_of_beq h2
        exact absurd (show true = false from q) (by decide)
      | false => rfl)
theorem FS_2 {L1 L2 : mj_L} (e : EqL FS L1 L2) : EqL FS2 L1 L2 := e.mono (fun c j q => (Bool.or_eq_false_iff.mp q).1)
/-- the rows of those who may have been dyed -/
def rof (A : AS) (a k : Nat) : Nat := rwk A.w A.c (A.h, A.m) ((gl (gss A.w A.c (A.h, A.m) A.se) (10 * A.w.n)).getD a 0) k
def gmn (A : AS) : Nat := cntF (gss A.w A.c (A.h, A.m) A.se) (10 * A.w.n)
section M
variable {I : mj_I} {L : mj_L} {P : mj_P} {Q : mj_Q} {d n r t a b : Nat} {A : AS} {w : WT} {c h : Nat → Nat} {m : MM}
/-- its second half: the rows are there -/
theorem s_267b {x N : Nat} {y3 y4 : Option Value} {f : Nat → Nat → Nat} (hP : PS t P) (hx : x ≤ 1) (hN : N ≤ 90) (hfl : ∀ a k, a < N → k < 20 → f a k < 2 ^ 63) (hL : ∀ a k, a < N → k < 20 → L 102 (20 * a + k) = lN (f a k)) (k : Q (.inl (some (.int (if x = 0 then mI (nxtS f N).1 else nI (nxtS f N).2)))) (107, I, L, P)) : mj_run (mj_ev d) k267 Q (k267 86) [some (.ref 73), some (.int (nI x)), some (.int (nI N)), y3, y4, none, none, none, none, none] [] (107, I, L, P) 0 0 := by
  have L94 : ∀ i, i ≤ 20 → ∀ (acc : Option Nat × Nat) x6 x7 x8 x9, acc.2 ≤ 90 → fld 20 i (nxtF f N) acc = nxtS f N → mj_run (mj_ev d) k267 Q (k267 94) [some (.ref 73), some (.int (nI x)), some (.int (nI N)), some (.int (mI acc.1)), some (.int (nI acc.2)), some (.int (nI i)), x6, x7, x8, x9] [] (107, I, L, P) 0 0 := by
    refine loop_up ?_ (fun i hi ih => ?_)
    · intro acc x6 x7 x8 x9 ha hf
      rw [fld_end (Nat.le_refl _)] at hf
      subst hf
      obtain rfl | rfl : x = 0 ∨ x = 1 := by omega
      · refine q_3 rfl ?_
        refine q_0 ?_
        refine q_geN (by omega) (by omega) (fun hh => ?_) (fun hh => absurd hh (by omega))
        refine q_3 rfl ?_
        first | refine q_neN0 (by omega) (fun hh => absurd hh (by omega)) (fun hh => ?_) | refine q_neI0 (fun hh => absurd hh (by omega)) (fun hh => ?_)
        refine q_3 rfl ?_
        refine q_23 ?_
        refine q_26 ?_
        exact k
      · refine q_3 rfl ?_
        refine q_0 ?_
        refine q_geN (by omega) (by omega) (fun hh => ?_) (fun hh => absurd hh (by omega))
        refine q_3 rfl ?_
        first | refine q_neN0 (by omega) (fun hh => ?_) (fun hh => absurd hh (by omega)) | refine q_neI0 (fun hh => ?_) (fun hh => absurd (by omega) hh)
        refine q_3 rfl ?_
        refine q_26 ?_
        exact k
    · intro acc x6 x7 x8 x9 hac hf
      rw [fld_step hi] at hf
      have L107 : ∀ j, j ≤ N → ∀ y8 y9, mj_run (mj_ev d) k267 Q (k267 107) [some (.ref 73), some (.int (nI x)), some (.int (nI N)), some (.int (mI acc.1)), some (.int (nI acc.2)), some (.int (nI i)), some (.int (nI (dst (fun a => f a i) j))), some (.int (nI j)), y8, y9] [] (107, I, L, P) 0 0 := by
        refine loop_up ?_ (fun j hj ih2 => ?_)
        · intro y8 y9
          have hd : dst (fun a => f a i) N ≤ N := cntF_le _ _
          refine q_3 rfl ?_
          refine q_3 rfl ?_
          refine q_geN (by omega) (by omega) (fun hh => ?_) (fun hh => absurd hh (by omega))
          refine q_3 rfl ?_
          refine q_3 rfl ?_
          refine q_gtN (by omega) (by omega) (fun h1 => ?_) (fun h1 => ?_)
          · refine q_3 rfl ?_
            refine q_0 ?_
            first | refine q_add ?_ | refine q_11 rfl ?_
            refine q_6 rfl rfl rfl ?_
            refine q_3 rfl ?_
            refine q_6 rfl rfl rfl ?_
            first | refine q_inc rfl rfl rfl ?_ | refine q_9 rfl rfl rfl ?_
            refine q_23 ?_
            first | (rw [show nxtF f N acc i = (some (i + 1), dst (fun a => f a i) N) from if_pos h1] at hf; exact ih (some (i + 1), dst (fun a => f a i) N) _ _ _ _ (by show dst _ _ ≤ 90; omega) hf) | (rw [show nxtF f N acc i = acc from if_neg (Nat.not_lt.mpr h1)] at hf; exact ih acc _ _ _ _ hac hf)
          · refine q_23 ?_
            first | refine q_inc rfl rfl rfl ?_ | refine q_9 rfl rfl rfl ?_
            refine q_23 ?_
            first | (rw [show nxtF f N acc i = (some (i + 1), dst (fun a => f a i) N) from if_pos h1] at hf; exact ih (some (i + 1), dst (fun a => f a i) N) _ _ _ _ (by show dst _ _ ≤ 90; omega) hf) | (rw [show nxtF f N acc i = acc from if_neg (Nat.not_lt.mpr h1)] at hf; exact ih acc _ _ _ _ hac hf)
        · intro y8 y9
          have fin : ∀ (is : Bool) z9, is = (fnd j 0 (fun b => decide (f j i = f b i))).isNone → mj_run (mj_ev d) k267 Q (k267 174) [some (.ref 73), some (.int (nI x)), some (.int (nI N)), some (.int (mI acc.1)), some (.int (nI acc.2)), some (.int (nI i)), some (.int (nI (dst (fun a => f a i) j))), some (.int (nI j)), some (.int (nI (if is then 1 else 0))), z9] [] (107, I, L, P) 0 0 := by
            intro is z9 his
            have ed : dst (fun a => f a i) (j + 1) = dst (fun a => f a i) j + (if is then 1 else 0) := by rw [his]; rfl
            rw [ed] at ih2
            cases is with
            | true =>
              refine q_3 rfl ?_
              refine q_3 rfl ?_
              first | refine q_eqN0 (by omega) (fun hh => absurd hh (by omega)) (fun hh => ?_) | refine q_eqI0 (fun hh => absurd hh (by decide)) (fun hh => ?_)
              refine q_0 ?_
              refine q_23 ?_
              first | refine q_add ?_ | refine q_11 rfl ?_
              refine q_6 rfl rfl rfl ?_
              first | refine q_inc rfl rfl rfl ?_ | refine q_9 rfl rfl rfl ?_
              refine q_23 ?_
              exact ih2 _ _
            | false =>
              refine q_3 rfl ?_
              refine q_3 rfl ?_
              first | refine q_eqN0 (by omega) (fun hh => ?_) (fun hh => absurd hh (by omega)) | refine q_eqI0 (fun hh => ?_) (fun hh => absurd (by decide) hh)
              refine q_0 ?_
              first | refine q_add ?_ | refine q_11 rfl ?_
              refine q_6 rfl rfl rfl ?_
              first | refine q_inc rfl rfl rfl ?_ | refine q_9 rfl rfl rfl ?_
              refine q_23 ?_
              exact ih2 _ _
          have L119 : ∀ q, q ≤ j → fnd j q (fun b => decide (f j i = f b i)) = fnd j 0 (fun b => decide (f j i = f b i)) → mj_run (mj_ev d) k267 Q (k267 119) [some (.ref 73), some (.int (nI x)), some (.int (nI N)), some (.int (mI acc.1)), some (.int (nI acc.2)), some (.int (nI i)), some (.int (nI (dst (fun a => f a i) j))), some (.int (nI j)), some (.int (nI 1)), some (.int (nI q))] [] (107, I, L, P) 0 0 := by
            refine loop_up ?_ (fun q hq ih3 => ?_)
            · intro hfq
              rw [fnd_end (Nat.le_refl _)] at hfq
              refine q_3 rfl ?_
              refine q_3 rfl ?_
              refine q_geN (by omega) (by omega) (fun hh => ?_) (fun hh => absurd hh (by omega))
              exact fin true _ (by rw [← hfq]; rfl)
            · intro hfq
              have l1 := hL j i hj hi
              have l2 := hL q i (by omega) hi
              by_cases heq : f j i = f q i
              · rw [fnd_yes hq (decide_eq_true heq)] at hfq
                refine q_3 rfl ?_
                refine q_3 rfl ?_
                refine q_geN (by omega) (by omega) (fun hh => absurd hh (by omega)) (fun hh => ?_)
                refine q_3 rfl ?_
                first | refine q_eqN0 (by omega) (fun hh => absurd hh (by omega)) (fun hh => ?_) | refine q_eqI0 (fun hh => absurd hh (by omega)) (fun hh => ?_)
                refine q_5 rfl ?_
                refine q_33 rfl (by decide) (hP _ _ _ rfl) ?_
                refine q_0 ?_
                refine q_3 rfl ?_
                first | refine q_mul ?_ | refine q_11 rfl ?_
                refine q_3 rfl ?_
                first | refine q_add ?_ | refine q_11 rfl ?_
                refine q_39E _ rfl (by decide) rfl (by show _ < 1800; omega) (by decide) l1 ?_
                refine q_5 rfl ?_
                refine q_33 rfl (by decide) (hP _ _ _ rfl) ?_
                refine q_0 ?_
                refine q_3 rfl ?_
                first | refine q_mul ?_ | refine q_11 rfl ?_
                refine q_3 rfl ?_
                first | refine q_add ?_ | refine q_11 rfl ?_
                refine q_39E _ rfl (by decide) rfl (by show _ < 1800; omega) (by decide) l2 ?_
                refine q_17 ?_
                refine q_eqI0 (fun _ => ?_) (fun z => absurd ((lg_cmp_eq _ _).mpr (by rw [heq])) z)
                refine q_0 ?_
                refine q_6 rfl rfl rfl ?_
                refine q_inc rfl rfl rfl ?_
                refine q_23 ?_
                refine q_3 rfl ?_
                refine q_3 rfl ?_
                rcases Nat.lt_or_ge (q + 1) j with hlt | hge
                · refine q_geN (by omega) (by omega) (fun z => absurd z (by omega)) (fun _ => ?_)
                  refine q_3 rfl ?_
                  refine q_eqN0 (by omega) (fun _ => ?_) (fun z => absurd rfl z)
                  exact fin false _ (by rw [← hfq]; rfl)
                · refine q_geN (by omega) (by omega) (fun _ => ?_) (fun z => absurd z (by omega))
                  exact fin false _ (by rw [← hfq]; rfl)
              · rw [fnd_no hq (decide_eq_false heq)] at hfq
                refine q_3 rfl ?_
                refine q_3 rfl ?_
                refine q_geN (by omega) (by omega) (fun hh => absurd hh (by omega)) (fun hh => ?_)
                refine q_3 rfl ?_
                first | refine q_eqN0 (by omega) (fun hh => absurd hh (by omega)) (fun hh => ?_) | refine q_eqI0 (fun hh => absurd hh (by omega)) (fun hh => ?_)
                refine q_5 rfl ?_
                refine q_33 rfl (by decide) (hP _ _ _ rfl) ?_
                refine q_0 ?_
                refine q_3 rfl ?_
                first | refine q_mul ?_ | refine q_11 rfl ?_
                refine q_3 rfl ?_
                first | refine q_add ?_ | refine q_11 rfl ?_
                refine q_39E _ rfl (by decide) rfl (by show _ < 1800; omega) (by decide) l1 ?_
                refine q_5 rfl ?_
                refine q_33 rfl (by decide) (hP _ _ _ rfl) ?_
                refine q_0 ?_
                refine q_3 rfl ?_
                first | refine q_mul ?_ | refine q_11 rfl ?_
                refine q_3 rfl ?_
                first | refine q_add ?_ | refine q_11 rfl ?_
                refine q_39E _ rfl (by decide) rfl (by show _ < 1800; omega) (by decide) l2 ?_
                refine q_17 ?_
                refine q_eqI0 (fun z => absurd ((pk_lEQ (hfl j i hj hi) (hfl q i (by omega) hi)).mp ((lg_cmp_eq _ _).mp z)) heq) (fun _ => ?_)
                refine q_0 ?_
                refine q_23 ?_
                refine q_6 rfl rfl rfl ?_
                first | refine q_inc rfl rfl rfl ?_ | refine q_9 rfl rfl rfl ?_
                refine q_23 ?_
                exact ih3 hfq
          refine q_3 rfl ?_
          refine q_3 rfl ?_
          refine q_geN (by omega) (by omega) (fun hh => absurd hh (by omega)) (fun hh => ?_)
          refine q_0 ?_
          refine q_6 rfl rfl rfl ?_
          refine q_0 ?_
          refine q_6 rfl rfl rfl ?_
          exact L119 0 (by omega) rfl
      refine q_3 rfl ?_
      refine q_0 ?_
      refine q_geN (by omega) (by omega) (fun hh => absurd hh (by omega)) (fun hh => ?_)
      refine q_0 ?_
      refine q_6 rfl rfl rfl ?_
      refine q_0 ?_
      refine q_6 rfl rfl rfl ?_
      exact L107 0 (by omega) _ _
  refine q_1 ?_
  refine q_6 rfl rfl rfl ?_
  refine q_0 ?_
  refine q_6 rfl rfl rfl ?_
  refine q_0 ?_
  refine q_6 rfl rfl rfl ?_
  exact L94 0 (by omega) (none, 0) _ _ _ _ (by decide) rfl
theorem s_267 {x : Nat} (hP : PS t P) (hS : MS A I L) (hx : x ≤ 1) (k : kM Q I L P 0 (.int (if x = 0 then mI (nxtS (rof A) (gmn A)).1 else nI (nxtS (rof A) (gmn A)).2))) : mj_ev (d + 12) 267 [.ref 73, .int (nI x)] (107, I, L, P) Q := by
  refine ⟨rfl, ?_⟩
  have hS0 := hS.i0
  have hn10 := hS.n10
  have hsn := hS0.2.1.2.2.2.1
  have h52 : I0 I 73 52 = nI A.se.length := hS0.2.1.2.2.2.2
  have c10 : ∀ p, p < A.w.n → A.c p < 10 := fun p hp => hS.rw.c10 hp
  have hmax := gss_le (w := A.w) (s := (A.h, A.m)) (se := A.se) c10
  have hgm : ∀ g, gm A.w.n (many A.w (cdy A.c g) (A.h, A.m) 0).2 := fun g => hS.rw.gm
  have hgmk : ∀ g k, gm A.w.n (many A.w (cdy A.c g) (A.h, A.m) k).2 := by
    intro g k
    induction k with
    | zero => exact hS.rw.gm
    | succ k ih => exact gm_prt (gm_bal _ ih)
  have L20 : ∀ g, g ≤ 10 * A.w.n → ∀ I' L' x4, Eqf (frr 33) (I0 I) I' → EqL FS2 L L' → (∀ a g0, (gl (gss A.w A.c (A.h, A.m) A.se) g)[a]? = some g0 → ∀ k, k < 20 → L' 102 (20 * a + k) = lN (rwk A.w A.c (A.h, A.m) g0 k)) → mj_run (mj_ev (d + 11)) k267 Q (k267 20) [some (.ref 73), some (.int (nI x)), some (.int (nI (cntF (gss A.w A.c (A.h, A.m) A.se) g))), some (.int (nI g)), x4, none, none, none, none, none] [] (107, I', L', P) 0 0 := by
    refine loop_up ?_ (fun g hg ih => ?_)
    · intro I' L' x4 e' eL hL
      have hn := (hS0.mt.frr e').hn
      have key := s_267b (d := d + 11) (I := I') (L := L') (Q := Q) (P := P) (t := t) (x := x) (N := gmn A) (f := rof A) (y3 := some (.int (nI (10 * A.w.n)))) (y4 := x4) hP hx (by show cntF _ _ ≤ 90; omega) (fun a k _ _ => Nat.lt_of_lt_of_le (rcd_lt hn10 (fun p hp q hq => by have := (hgmk _ _ p hp q hq).1; omega)) (by decide)) (fun a k ha hk => by
        have hl : a < (gl (gss A.w A.c (A.h, A.m) A.se) (10 * A.w.n)).length := by rw [gl_len]; exact ha
        have := hL a _ (List.getElem?_eq_getElem hl) k hk
        rw [this]
        unfold rof
        rw [List.getD_eq_getElem?_getD, List.getElem?_eq_getElem hl]
        rfl) (k I' L' (I0_fm.tr (FM_33 e')) (FS2_fl eL) (e' 73 0 rfl))
      refine q_3 rfl ?_
      refine q_0 ?_
      refine q_5 rfl ?_
      first | refine q_31E rfl (by decide) hn ?_ | refine q_31 rfl (by decide) ?_
      first | refine q_mul ?_ | refine q_11 rfl ?_
      refine q_geN (by omega) (by omega) (fun hh => ?_) (fun hh => absurd hh (by omega))
      exact key
    · intro I' L' x4 e' eL hL
      have hn := (hS0.mt.frr e').hn
      have hs' : SN A.w.n (I' 100) A.se := by
        rw [show I' 100 = I0 I 100 from funext fun j => e' 100 j rfl]
        exact hsn
      have g52 : I' 73 52 = nI A.se.length := (e' 73 52 rfl).trans h52
      have hc : ∀ {b' : Bool}, gss A.w A.c (A.h, A.m) A.se g = b' → cntF (gss A.w A.c (A.h, A.m) A.se) (g + 1) = cntF (gss A.w A.c (A.h, A.m) A.se) g + (if b' then 1 else 0) := fun q => by rw [← q]; rfl
      have no : gss A.w A.c (A.h, A.m) A.se g = false → ∀ I2 L2 y4, Eqf (frr 33) (I0 I) I2 → EqL FS2 L L2 → (∀ j, L2 102 j = L' 102 j) → mj_run (mj_ev (d + 11)) k267 Q (k267 20) [some (.ref 73), some (.int (nI x)), some (.int (nI (cntF (gss A.w A.c (A.h, A.m) A.se) g))), some (.int (nI (g + 1))), y4, none, none, none, none, none] [] (107, I2, L2, P) 0 0 := by
        intro q I2 L2 y4 e2 eL2 same
        rw [hc q, gl_succ, q] at ih
        refine ih I2 L2 y4 e2 eL2 (fun a g0 hg0 k hk => ?_)
        rw [same]
        refine hL a g0 ?_ k hk
        rw [show (if false = true then [g] else []) = ([] : List Nat) from rfl, List.append_nil] at hg0
        exact hg0
      have hlt : gss A.w A.c (A.h, A.m) A.se g = true → cntF (gss A.w A.c (A.h, A.m) A.se) g < 90 := by
        intro q
        have h1 := hc q
        have h2 := cntF_mono (gss A.w A.c (A.h, A.m) A.se) (show g + 1 ≤ 10 * A.w.n by omega)
        rw [h1, if_pos rfl] at h2
        omega
      have yes : gss A.w A.c (A.h, A.m) A.se g = true → ∀ I2 L2, Eqf (frr 33) (I0 I) I2 → EqL FS2 L L2 → (∀ j, L2 102 j = L' 102 j) → (∀ j, j < 20 → L2 101 j = lN (rwk A.w A.c (A.h, A.m) g j)) → mj_run (mj_ev (d + 11)) k267 Q (k267 42) [some (.ref 73), some (.int (nI x)), some (.int (nI (cntF (gss A.w A.c (A.h, A.m) A.se) g))), some (.int (nI g)), x4, none, none, none, none, none] [] (107, I2, L2, P) 0 0 := by
        intro q I2 L2 e2 eL2 same h101
        have h90 := hlt q
        rw [hc q, gl_succ, q, if_pos rfl] at ih
        have L45 : ∀ i, i ≤ 20 → ∀ L3, EqL FS2 L L3 → (∀ j, j < 20 → L3 101 j = L2 101 j) → (∀ j, j < 20 * cntF (gss A.w A.c (A.h, A.m) A.se) g → L3 102 j = L2 102 j) → (∀ j, j < i → L3 102 (20 * cntF (gss A.w A.c (A.h, A.m) A.se) g + j) = L2 101 j) → mj_run (mj_ev (d + 11)) k267 Q (k267 45) [some (.ref 73), some (.int (nI x)), some (.int (nI (cntF (gss A.w A.c (A.h, A.m) A.se) g))), some (.int (nI g)), some (.int (nI i)), none, none, none, none, none] [] (107, I2, L3, P) 0 0 := by
          refine loop_up ?_ (fun i hi ih2 => ?_)
          · intro L3 eL3 z1 z2 z3
            refine q_3 rfl ?_
            refine q_0 ?_
            refine q_geN (by omega) (by omega) (fun hh => ?_) (fun hh => absurd hh (by omega))
            first | refine q_inc rfl rfl rfl ?_ | refine q_9 rfl rfl rfl ?_
            first | refine q_inc rfl rfl rfl ?_ | refine q_9 rfl rfl rfl ?_
            refine q_23 ?_
            refine ih I2 L3 _ e2 eL3 (fun a g0 hg0 k hk => ?_)
            by_cases ha : a < (gl (gss A.w A.c (A.h, A.m) A.se) g).length
            · rw [List.getElem?_append_left ha] at hg0
              rw [gl_len] at ha
              rw [z2 _ (by omega), same]
              exact hL a g0 hg0 k hk
            · rw [List.getElem?_append_right (by omega)] at hg0
              have ea : a = (gl (gss A.w A.c (A.h, A.m) A.se) g).length := by
                by_cases q : a - (gl (gss A.w A.c (A.h, A.m) A.se) g).length = 0
                · omega
                · rw [List.getElem?_eq_none (by show 1 ≤ a - _; omega)] at hg0
                  cases hg0
              rw [ea, Nat.sub_self] at hg0
              cases hg0
              rw [ea, gl_len, z3 k hk]
              exact h101 k hk
          · intro L3 eL3 z1 z2 z3
            have w1 := z1 i hi
            refine q_3 rfl ?_
            refine q_0 ?_
            refine q_geN (by omega) (by omega) (fun hh => absurd hh (by omega)) (fun hh => ?_)
            refine q_5 rfl ?_
            refine q_33 rfl (by decide) (hP _ _ _ rfl) ?_
            refine q_0 ?_
            refine q_3 rfl ?_
            first | refine q_mul ?_ | refine q_11 rfl ?_
            refine q_3 rfl ?_
            first | refine q_add ?_ | refine q_11 rfl ?_
            refine q_5 rfl ?_
            refine q_33 rfl (by decide) (hP _ _ _ rfl) ?_
            refine q_3 rfl ?_
            refine q_39E _ rfl (by decide) rfl (by show _ < 20; omega) (by decide) w1 ?_
            refine q_43 _ rfl (by decide) rfl (by show _ < 1800; omega) (by decide) ?_
            first | refine q_inc rfl rfl rfl ?_ | refine q_9 rfl rfl rfl ?_
            refine q_23 ?_
            refine ih2 _ (eL3.up rfl) (fun j hj => ?_) (fun j hj => ?_) (fun j hj => ?_)
            · rw [upL_c (by decide)]
              exact z1 j hj
            · rw [upL_j (by omega)]
              exact z2 j hj
            · by_cases e : j = i
              · subst e
                exact upL_s
              · rw [upL_j (by omega)]
                exact z3 j (by omega)
        refine q_0 ?_
        refine q_6 rfl rfl rfl ?_
        exact L45 0 (by omega) L2 eL2 (fun _ _ => rfl) (fun _ _ => rfl) (fun j hj => absurd hj (by omega))
      refine q_3 rfl ?_
      refine q_0 ?_
      refine q_5 rfl ?_
      first | refine q_31E rfl (by decide) hn ?_ | refine q_31 rfl (by decide) ?_
      first | refine q_mul ?_ | refine q_11 rfl ?_
      refine q_geN (by omega) (by omega) (fun hh => absurd hh (by omega)) (fun hh => ?_)
      refine q_5 rfl ?_
      refine q_3 rfl ?_
      refine q_47 (mj_ev_mono _) [_] rfl rfl rfl (by decide) rfl rfl rfl ?_
      refine s_265 hP (hS0.mt.frr e') (hS0.rw.f0 e') hs' g52 hg (fun h1 => ?_) (fun h1 I2 L2 e2 eL2 h101 => ?_)
      rotate_left
      · cases hk : sok A.w (cdy A.c g) (A.h, A.m) A.se with
        | false =>
          refine q_neN0 (by decide) (fun q => absurd rfl q) (fun _ => ?_)
          refine q_23 ?_
          refine q_inc rfl rfl rfl ?_
          refine q_23 ?_
          exact no (by unfold gss; simp [hk]) I2 L2 _ (e'.tr e2) (eL.tr (FS_2 eL2)) (fun j => eL2 102 j rfl)
        | true =>
          refine q_neN0 (by decide) (fun _ => ?_) (fun q => absurd q (by decide))
          exact yes (by unfold gss; simp [hk, h1]) I2 L2 (e'.tr e2) (eL.tr (FS_2 eL2)) (fun j => eL2 102 j rfl) h101
      first | refine q_neN0 (by omega) (fun hh => absurd hh (by omega)) (fun hh => ?_) | refine q_neI0 (fun hh => absurd hh (by omega)) (fun hh => ?_)
      refine q_23 ?_
      first | refine q_inc rfl rfl rfl ?_ | refine q_9 rfl rfl rfl ?_
      refine q_23 ?_
      exact no (by unfold gss; simp [h1]) I' L' _ e' eL (fun _ => rfl)
  show mj_run (mj_ev (d + 11)) k267 Q (k267 0) [some (.ref 73), some (.int (nI x)), none, none, none, none, none, none, none, none] [] (107, I, L, P) 0 0
  refine q_5 rfl ?_
  refine q_0 ?_
  refine q_34 rfl (by decide) ?_
  refine q_5 rfl ?_
  refine q_3 rfl ?_
  refine q_0 ?_
  refine q_47 (mj_ev_mono _) [_, _] rfl rfl rfl (by decide) rfl rfl rfl ?_
  refine s_222T I0_th hx (by omega) ?_
  first | refine q_neN0 (by omega) (fun hh => ?_) (fun hh => absurd hh (by omega)) | refine q_neI0 (fun hh => ?_) (fun hh => absurd (by omega) hh)
  refine q_0 ?_
  refine q_6 rfl rfl rfl ?_
  refine q_0 ?_
  refine q_6 rfl rfl rfl ?_
  exact L20 0 (by omega) (I0 I) L _ Eqf.rf EqL.rf (fun a g0 hg0 => by cases hg0)
theorem s_267F {x : Int32} (hx : x < nI 0 ∨ nI 1 < x) (k : kM Q I L P 1 (.int (nI 0))) : mj_ev (d + 12) 267 [.ref 73, .int x] (107, I, L, P) Q := by
  refine ⟨rfl, ?_⟩
  show mj_run (mj_ev (d + 11)) k267 Q (k267 0) [some (.ref 73), some (.int x), none, none, none, none, none, none, none, none] [] (107, I, L, P) 0 0
  refine q_5 rfl ?_
  refine q_0 ?_
  refine q_34 rfl (by decide) ?_
  refine q_5 rfl ?_
  refine q_3 rfl ?_
  refine q_0 ?_
  refine q_47 (mj_ev_mono _) [_, _] rfl rfl rfl (by decide) rfl rfl rfl ?_
  refine s_222F I0_th hx ?_
  first | refine q_neN0 (by omega) (fun hh => absurd hh (by omega)) (fun hh => ?_) | refine q_neI0 (fun hh => absurd hh (by omega)) (fun hh => ?_)
  refine q_0 ?_
  refine q_26 ?_
  exact k.bad
end M
