/-! the class: as many couples as could be, the most alike -/
def wtX (al : Nat → Nat → Int32) (x : Nat) : Nat → Nat → Nat := if x = 0 then fun _ _ => 1 else wtA al
def TC (al : Nat → Nat → Int32) (n x s : Nat) (L : mj_L) : Prop := ∀ S : Nat → Bool, maskF S n < s → L 59 (maskF S n) = lN (hT (wtX al x) (okA al) n S)
theorem hTX_le {al : Nat → Nat → Int32} {n x : Nat} (S : Nat → Bool) (hn : n ≤ 10) : hT (wtX al x) (okA al) n S ≤ 10 * 2 ^ 31 := by
  unfold wtX
  split
  · exact Nat.le_trans (hT1_le S hn) (by omega)
  · exact hTA_le S hn
theorem mask_inj {S S' : Nat → Bool} {n : Nat} (h : maskF S n = maskF S' n) : ∀ p, p < n → S p = S' p := fun p hp => by
  have := congrArg (fun x => x.testBit p) h
  simp only [tb_mask] at this
  simpa [hp] using this
section C
variable {I : mj_I} {L : mj_L} {P : mj_P} {Q : mj_Q} {d n r t a b : Nat} {A : AS} {w : WT} {c h : Nat → Nat} {m : MM} {al : Nat → Nat → Int32}
theorem c_92 {x g lg : Nat} {F : Nat → Bool} (hP : PS t P) (hg : mj_sh g = 1) (hg7 : g < 107) (lg0 : mj_ln g = lg) (hlg : 100 ≤ lg ∧ lg < 10000) (hn : I 3 0 = nI n) (hn10 : n ≤ 10) (hx : x ≤ 1) (hG : ∀ a b, a < b → b < n → I g (a * 10 + b) = al a b) (k : ∀ L', EqL (frm [59] []) L L' → TC al n x (2 ^ n) L' → Q (.inl (some (.long (lN (hT (wtX al x) (okA al) n F))))) (107, I, L', P)) : mj_ev (d + 1) 92 [.ref 60, .ref g, .int (nI x), .int (nI (maskF F n))] (107, I, L, P) Q := by
  refine ⟨rfl, ?_⟩
  have p10 : 2 ^ n ≤ 1024 := Nat.pow_le_pow_right (n := 2) (by omega) hn10
  have mF := maskF_lt F n
  have L10 : ∀ l, l ≤ n → ∀ L' x5 x6 x8 x9, EqL (frm [59] []) L L' → TC al n x (2 ^ l) L' → mj_run (mj_ev d) k92 Q (k92 10) [some (.ref 60), some (.ref g), some (.int (nI x)), some (.int (nI (maskF F n))), some (.int (nI l)), x5, x6, none, x8, x9] [] (107, I, L', P) 0 0 := by
    refine loop_up ?_ (fun l hl ih => ?_)
    · intro L' x5 x6 x8 x9 e' hT'
      have u1 := hT' F mF
      refine q_3 rfl ?_
      refine q_5 rfl ?_
      refine q_33 rfl (by decide) (hP _ _ _ rfl) ?_
      first | refine q_31E rfl (by decide) hn ?_ | refine q_31 rfl (by decide) ?_
      refine q_geN (by omega) (by omega) (fun hh => ?_) (fun hh => absurd hh (by omega))
      refine q_5 rfl ?_
      refine q_33 rfl (by decide) (hP _ _ _ rfl) ?_
      refine q_3 rfl ?_
      first | refine q_39E _ rfl (by decide) rfl (by show _ < 1024; omega) (by decide) (u1) ?_ | refine q_39 _ rfl (by decide) rfl (by show _ < 1024; omega) (by decide) ?_
      refine q_28 ?_
      exact k L' e' hT'
    · intro L' x5 x6 x8 x9 e' hT'
      have pl : 2 ^ l ≤ 2 ^ n := Nat.pow_le_pow_right (n := 2) (by omega) (by omega)
      have pl1 : 2 ^ l + 2 ^ l ≤ 2 ^ n := by
        have : 2 ^ (l + 1) ≤ 2 ^ n := Nat.pow_le_pow_right (n := 2) (by omega) (by omega)
        rw [Nat.pow_succ] at this
        omega
      have L25 : ∀ r, r ≤ 2 ^ l → ∀ L' x6 x8 x9, EqL (frm [59] []) L L' → TC al n x (2 ^ l + r) L' → mj_run (mj_ev d) k92 Q (k92 25) [some (.ref 60), some (.ref g), some (.int (nI x)), some (.int (nI (maskF F n))), some (.int (nI l)), some (.int (nI r)), x6, none, x8, x9] [] (107, I, L', P) 0 0 := by
        refine loop_up ?_ (fun r hr ih2 => ?_)
        · intro L' x6 x8 x9 e' hT'
          refine q_3 rfl ?_
          refine q_0 ?_
          refine q_3 rfl ?_
          first | refine q_shl1 (by omega) ?_ | refine q_11 rfl ?_
          refine q_geN (by omega) (by omega) (fun hh => ?_) (fun hh => absurd hh (by omega))
          first | refine q_inc rfl rfl rfl ?_ | refine q_9 rfl rfl rfl ?_
          refine q_23 ?_
          exact ih L' _ _ _ _ e' (by rw [Nat.pow_succ, Nat.mul_two]; exact hT')
        · intro L' x6 x8 x9 e' hT'
          obtain ⟨R, hRr, hRl⟩ : ∃ R : Nat → Bool, r = maskF R n ∧ ∀ i, l ≤ i → R i = false := ⟨fun i => r.testBit i, mask_test (by omega), fun i hi => Nat.testBit_lt_two_pow (Nat.lt_of_lt_of_le hr (Nat.pow_le_pow_right (by decide) hi))⟩
          subst hRr
          have ml := mask_lt10 R hn10
          have u0 := hT' R (by omega)
          have eor : maskF R n ||| 2 ^ l = 2 ^ l + maskF R n := by
            have := Nat.two_pow_add_eq_or_of_lt hr 1
            rw [Nat.mul_one] at this
            rw [Nat.or_comm]
            exact this.symm
          have es : maskF R n ||| 2 ^ l = maskF (fun i => R i || decide (i = l)) n := mask_orb R hl
          have hh9 := hT_high (wt := wtX al x) (ok := okA al) (n := n) hl hRl
          have L46 : ∀ o, o ≤ l → ∀ acc y9, acc ≤ 11 * 2 ^ 31 → fld l o (mxF (fun o => R o && okA al o l) (fun o => hT (wtX al x) (okA al) n (sm R o) + wtX al x o l)) acc = hT (wtX al x) (okA al) n (fun i => R i || decide (i = l)) → mj_run (mj_ev d) k92 Q (k92 46) [some (.ref 60), some (.ref g), some (.int (nI x)), some (.int (nI (maskF F n))), some (.int (nI l)), some (.int (nI (maskF R n))), some (.long (lN acc)), none, some (.int (nI o)), y9] [] (107, I, L', P) 0 0 := by
            refine loop_up ?_ (fun o ho ih3 => ?_)
            · intro acc y9 hb hf
              rw [fld_end (Nat.le_refl _)] at hf
              subst hf
              refine q_3 rfl ?_
              refine q_3 rfl ?_
              refine q_geN (by omega) (by omega) (fun hh => ?_) (fun hh => absurd hh (by omega))
              refine q_5 rfl ?_
              refine q_33 rfl (by decide) (hP _ _ _ rfl) ?_
              refine q_3 rfl ?_
              refine q_0 ?_
              refine q_3 rfl ?_
              first | refine q_shl1 (by omega) ?_ | refine q_11 rfl ?_
              first | refine q_orN ?_ | refine q_11 rfl ?_
              rw [eor]
              refine q_4 rfl ?_
              refine q_43 _ rfl (by decide) rfl (by show _ < 1024; omega) (by decide) ?_
              first | refine q_inc rfl rfl rfl ?_ | refine q_9 rfl rfl rfl ?_
              refine q_23 ?_
              refine ih2 _ _ _ _ (e'.up rfl) (fun S hS => ?_)
              by_cases e : maskF S n = 2 ^ l + maskF R n
              · rw [e, upL_s]
                congr 1
                refine hT_congr (fun p hp => ?_)
                exact (mask_inj (e.trans (eor.symm.trans es)) p hp).symm
              · rw [upL_j e]
                exact hT' S (by omega)
            · intro acc y9 hb hf
              rw [fld_step ho] at hf
              have gv := hG o l ho hl
              cases hRo : R o with
              | false =>
                rw [show mxF (fun o => R o && okA al o l) (fun o => hT (wtX al x) (okA al) n (sm R o) + wtX al x o l) acc o = acc from if_neg (by show ¬ (R o && okA al o l) = true; rw [hRo]; exact fun z => by cases z)] at hf
                refine q_3 rfl ?_
                refine q_3 rfl ?_
                refine q_geN (by omega) (by omega) (fun hh => absurd hh (by omega)) (fun hh => ?_)
                refine q_5 rfl ?_
                refine q_3 rfl ?_
                refine q_0 ?_
                first | refine q_mul ?_ | refine q_11 rfl ?_
                refine q_3 rfl ?_
                first | refine q_add ?_ | refine q_11 rfl ?_
                refine q_38E (o * 10 + l) hg hg7 rfl (by omega) (by omega) gv ?_
                refine q_6 rfl rfl rfl ?_
                refine q_3 rfl ?_
                refine q_3 rfl ?_
                first | refine q_bitT (by assumption) (by omega) (by omega) ?_ | refine q_bitF (by assumption) (by omega) (by omega) ?_ | refine q_bit (by omega) (by omega) ?_ | refine q_bitM (by first | omega | assumption) (by omega) ?_
                first | refine q_eqN0 (by omega) (fun hh => ?_) (fun hh => absurd hh (by omega)) | refine q_eqI0 (fun hh => ?_) (fun hh => absurd (by omega) hh)
                first | refine q_inc rfl rfl rfl ?_ | refine q_9 rfl rfl rfl ?_
                refine q_23 ?_
                exact ih3 acc _ hb hf
              | true =>
                by_cases hpos : 0 < al o l
                · have u1 := hT' (sm R o) (by have := mask_sm_lt (n := n) (by omega) hRo; omega)
                  have b1 := hTX_le (al := al) (x := x) (sm R o) hn10
                  have mo := mask_lt10 (sm R o) hn10
                  rw [show mxF (fun o => R o && okA al o l) (fun o => hT (wtX al x) (okA al) n (sm R o) + wtX al x o l) acc o = (if acc < hT (wtX al x) (okA al) n (sm R o) + wtX al x o l then hT (wtX al x) (okA al) n (sm R o) + wtX al x o l else acc) from if_pos (by show (R o && okA al o l) = true; rw [hRo, show okA al o l = true from decide_eq_true hpos]; rfl)] at hf
                  have w1 := wtA_lt al o l
                  have hw : wtX al x o l < 2 ^ 31 := by
                    unfold wtX
                    split
                    · show 1 < 2 ^ 31
                      decide
                    · exact w1
                  obtain rfl | rfl : x = 0 ∨ x = 1 := by omega
                  · refine q_3 rfl ?_
                    refine q_3 rfl ?_
                    refine q_geN (by omega) (by omega) (fun hh => absurd hh (by omega)) (fun hh => ?_)
                    refine q_5 rfl ?_
                    refine q_3 rfl ?_
                    refine q_0 ?_
                    first | refine q_mul ?_ | refine q_11 rfl ?_
                    refine q_3 rfl ?_
                    first | refine q_add ?_ | refine q_11 rfl ?_
                    refine q_38E (o * 10 + l) hg hg7 rfl (by omega) (by omega) gv ?_
                    refine q_6 rfl rfl rfl ?_
                    refine q_3 rfl ?_
                    refine q_3 rfl ?_
                    first | refine q_bitT (by assumption) (by omega) (by omega) ?_ | refine q_bitF (by assumption) (by omega) (by omega) ?_ | refine q_bit (by omega) (by omega) ?_ | refine q_bitM (by first | omega | assumption) (by omega) ?_
                    first | refine q_eqN0 (by omega) (fun hh => absurd hh (by omega)) (fun hh => ?_) | refine q_eqI0 (fun hh => absurd hh (by omega)) (fun hh => ?_)
                    refine q_3 rfl ?_
                    refine q_leI0 (fun z => absurd hpos (Int32.not_lt.mpr z)) (fun _ => ?_)
                    refine q_4 rfl ?_
                    refine q_5 rfl ?_
                    refine q_33 rfl (by decide) (hP _ _ _ rfl) ?_
                    refine q_3 rfl ?_
                    refine q_0 ?_
                    refine q_3 rfl ?_
                    first | refine q_shl1 (by omega) ?_ | refine q_11 rfl ?_
                    first | refine q_xorN ?_ | refine q_11 rfl ?_
                    rw [mask_x (by omega) hRo]
                    first | refine q_39E _ rfl (by decide) rfl (by show _ < 1024; omega) (by decide) (u1) ?_ | refine q_39 _ rfl (by decide) rfl (by show _ < 1024; omega) (by decide) ?_
                    refine q_3 rfl ?_
                    first | refine q_eqN0 (by omega) (fun hh => ?_) (fun hh => absurd hh (by omega)) | refine q_eqI0 (fun hh => ?_) (fun hh => absurd (by omega) hh)
                    refine q_0 ?_
                    refine q_15 ?_
                    rw [nI_l (by omega)]
                    refine q_13 rfl ?_
                    rw [lN_add]
                    refine q_73 rfl ?_
                    rw [lmax (by omega) (by omega)]
                    refine q_7 rfl rfl rfl ?_
                    first | refine q_inc rfl rfl rfl ?_ | refine q_9 rfl rfl rfl ?_
                    refine q_23 ?_
                    exact ih3 _ _ (by split <;> omega) hf
                  · refine q_3 rfl ?_
                    refine q_3 rfl ?_
                    refine q_geN (by omega) (by omega) (fun hh => absurd hh (by omega)) (fun hh => ?_)
                    refine q_5 rfl ?_
                    refine q_3 rfl ?_
                    refine q_0 ?_
                    first | refine q_mul ?_ | refine q_11 rfl ?_
                    refine q_3 rfl ?_
                    first | refine q_add ?_ | refine q_11 rfl ?_
                    refine q_38E (o * 10 + l) hg hg7 rfl (by omega) (by omega) gv ?_
                    refine q_6 rfl rfl rfl ?_
                    refine q_3 rfl ?_
                    refine q_3 rfl ?_
                    first | refine q_bitT (by assumption) (by omega) (by omega) ?_ | refine q_bitF (by assumption) (by omega) (by omega) ?_ | refine q_bit (by omega) (by omega) ?_ | refine q_bitM (by first | omega | assumption) (by omega) ?_
                    first | refine q_eqN0 (by omega) (fun hh => absurd hh (by omega)) (fun hh => ?_) | refine q_eqI0 (fun hh => absurd hh (by omega)) (fun hh => ?_)
                    refine q_3 rfl ?_
                    refine q_leI0 (fun z => absurd hpos (Int32.not_lt.mpr z)) (fun _ => ?_)
                    refine q_4 rfl ?_
                    refine q_5 rfl ?_
                    refine q_33 rfl (by decide) (hP _ _ _ rfl) ?_
                    refine q_3 rfl ?_
                    refine q_0 ?_
                    refine q_3 rfl ?_
                    first | refine q_shl1 (by omega) ?_ | refine q_11 rfl ?_
                    first | refine q_xorN ?_ | refine q_11 rfl ?_
                    rw [mask_x (by omega) hRo]
                    first | refine q_39E _ rfl (by decide) rfl (by show _ < 1024; omega) (by decide) (u1) ?_ | refine q_39 _ rfl (by decide) rfl (by show _ < 1024; omega) (by decide) ?_
                    refine q_3 rfl ?_
                    first | refine q_eqN0 (by omega) (fun hh => absurd hh (by omega)) (fun hh => ?_) | refine q_eqI0 (fun hh => absurd hh (by omega)) (fun hh => ?_)
                    refine q_3 rfl ?_
                    refine q_23 ?_
                    refine q_15 ?_
                    rw [wtA_eq hpos, nI_l w1]
                    refine q_13 rfl ?_
                    rw [lN_add]
                    refine q_73 rfl ?_
                    rw [lmax (by omega) (by omega)]
                    refine q_7 rfl rfl rfl ?_
                    first | refine q_inc rfl rfl rfl ?_ | refine q_9 rfl rfl rfl ?_
                    refine q_23 ?_
                    exact ih3 _ _ (by have hw' : wtX al 1 o l = wtA al o l := rfl; split <;> omega) hf
                · rw [show mxF (fun o => R o && okA al o l) (fun o => hT (wtX al x) (okA al) n (sm R o) + wtX al x o l) acc o = acc from if_neg (by show ¬ (R o && okA al o l) = true; unfold okA; simp [hpos])] at hf
                  refine q_3 rfl ?_
                  refine q_3 rfl ?_
                  refine q_geN (by omega) (by omega) (fun hh => absurd hh (by omega)) (fun hh => ?_)
                  refine q_5 rfl ?_
                  refine q_3 rfl ?_
                  refine q_0 ?_
                  first | refine q_mul ?_ | refine q_11 rfl ?_
                  refine q_3 rfl ?_
                  first | refine q_add ?_ | refine q_11 rfl ?_
                  refine q_38E (o * 10 + l) hg hg7 rfl (by omega) (by omega) gv ?_
                  refine q_6 rfl rfl rfl ?_
                  refine q_3 rfl ?_
                  refine q_3 rfl ?_
                  first | refine q_bitT (by assumption) (by omega) (by omega) ?_ | refine q_bitF (by assumption) (by omega) (by omega) ?_ | refine q_bit (by omega) (by omega) ?_ | refine q_bitM (by first | omega | assumption) (by omega) ?_
                  first | refine q_eqN0 (by omega) (fun hh => absurd hh (by omega)) (fun hh => ?_) | refine q_eqI0 (fun hh => absurd hh (by omega)) (fun hh => ?_)
                  refine q_3 rfl ?_
                  refine q_leI0 (fun _ => ?_) (fun z => absurd (Int32.not_lt.mp hpos) z)
                  first | refine q_inc rfl rfl rfl ?_ | refine q_9 rfl rfl rfl ?_
                  refine q_23 ?_
                  exact ih3 acc _ hb hf
          have bR := hTX_le (al := al) (x := x) R hn10
          refine q_3 rfl ?_
          refine q_0 ?_
          refine q_3 rfl ?_
          first | refine q_shl1 (by omega) ?_ | refine q_11 rfl ?_
          refine q_geN (by omega) (by omega) (fun hh => absurd hh (by omega)) (fun hh => ?_)
          refine q_5 rfl ?_
          refine q_33 rfl (by decide) (hP _ _ _ rfl) ?_
          refine q_3 rfl ?_
          first | refine q_39E _ rfl (by decide) rfl (by show _ < 1024; omega) (by decide) (u0) ?_ | refine q_39 _ rfl (by decide) rfl (by show _ < 1024; omega) (by decide) ?_
          refine q_7 rfl rfl rfl ?_
          refine q_0 ?_
          refine q_6 rfl rfl rfl ?_
          exact L46 0 (by omega) _ _ (by omega) hh9.symm
      refine q_3 rfl ?_
      refine q_5 rfl ?_
      refine q_33 rfl (by decide) (hP _ _ _ rfl) ?_
      first | refine q_31E rfl (by decide) hn ?_ | refine q_31 rfl (by decide) ?_
      refine q_geN (by omega) (by omega) (fun hh => absurd hh (by omega)) (fun hh => ?_)
      refine q_0 ?_
      refine q_6 rfl rfl rfl ?_
      exact L25 0 (Nat.zero_le _) L' _ _ _ e' hT'
  show mj_run (mj_ev d) k92 Q (k92 0) [some (.ref 60), some (.ref g), some (.int (nI x)), some (.int (nI (maskF F n))), none, none, none, none, none, none] [] (107, I, L, P) 0 0
  refine q_5 rfl ?_
  refine q_33 rfl (by decide) (hP _ _ _ rfl) ?_
  refine q_0 ?_
  refine q_2 ?_
  refine q_43 _ rfl (by decide) rfl (by show _ < 1024; omega) (by decide) ?_
  refine q_0 ?_
  refine q_6 rfl rfl rfl ?_
  refine L10 0 (by omega) _ _ _ _ _ (EqL.rf.up rfl) (fun S hS => ?_)
  have e0 : maskF S n = 0 := by have : maskF S n < 1 := hS; omega
  rw [e0, upL_s, hT_0 (fun p hp => by have := mask_inj (e0.trans (mask_none n)) p hp; exact this)]
theorem lN_pred {x y : Nat} (hx : x < 2 ^ 62) (hy : y < 2 ^ 62) : lN x = lN y - lN 1 ↔ x + 1 = y := by
  constructor
  · intro e
    have e2 : lN x + lN 1 = lN y := by rw [e]; simp
    rw [lN_add] at e2
    exact (pk_lEQ (by omega) (by omega)).mp e2
  · rintro rfl
    rw [lN_sub (by omega)]
    rfl
theorem c_94 {g lg : Nat} {S : Nat → Bool} (hP : PS t P) (hg : mj_sh g = 1) (hg7 : g < 107) (lg0 : mj_ln g = lg) (hlg : 100 ≤ lg ∧ lg < 10000) (hn : I 3 0 = nI n) (hn10 : n ≤ 10) (hG : ∀ a b, a < b → b < n → I g (a * 10 + b) = al a b) (hT' : TC al n 0 (2 ^ n) L) (ha : a < n) (hS : S a = true) (k : Q (.inl (some (.int (mI (wm (okA al) n S a))))) (107, I, L, P)) : mj_ev (d + 1) 94 [.ref 60, .ref g, .int (nI a), .int (nI (maskF (sm S a) n)), .long (lN (hT (fun _ _ => 1) (okA al) n S) - lN 1)] (107, I, L, P) Q := by
  refine ⟨rfl, ?_⟩
  have b0 := hT1_le (al := al) S hn10
  have L5 : ∀ b, b ≤ n → a + 1 ≤ b → fnd n b (fun b => S b && okA al a b && decide (hT (fun _ _ => 1) (okA al) n (sm (sm S a) b) + 1 = hT (fun _ _ => 1) (okA al) n S)) = wm (okA al) n S a → ∀ x7, mj_run (mj_ev d) k94 Q (k94 5) [some (.ref 60), some (.ref g), some (.int (nI a)), some (.int (nI (maskF (sm S a) n))), some (.long (lN (hT (fun _ _ => 1) (okA al) n S) - lN 1)), none, some (.int (nI b)), x7] [] (107, I, L, P) 0 0 := by
    refine loop_up ?_ (fun b hb ih => ?_)
    · intro _ hf x7
      rw [fnd_end (Nat.le_refl _)] at hf
      refine q_3 rfl ?_
      refine q_5 rfl ?_
      refine q_33 rfl (by decide) (hP _ _ _ rfl) ?_
      first | refine q_31E rfl (by decide) hn ?_ | refine q_31 rfl (by decide) ?_
      refine q_geN (by omega) (by omega) (fun hh => ?_) (fun hh => absurd hh (by omega))
      refine q_1 ?_
      refine q_26 ?_
      exact kQ k (by rw [← hf]; rfl)
    · intro hab hf x7
      have gv := hG a b (by omega) hb
      have ml := mask_lt10 (sm (sm S a) b) hn10
      have u1 : L 59 (maskF (sm (sm S a) b) n) = lN (hT (fun _ _ => 1) (okA al) n (sm (sm S a) b)) := hT' (sm (sm S a) b) (maskF_lt _ n)
      have b1 := hT1_le (al := al) (sm (sm S a) b) hn10
      have es : sm S a b = S b := by unfold sm; simp [show ¬ b = a by omega]
      cases hsb : sm S a b with
      | false =>
        rw [fnd_no hb (by rw [← es, hsb]; rfl)] at hf
        refine q_3 rfl ?_
        refine q_5 rfl ?_
        refine q_33 rfl (by decide) (hP _ _ _ rfl) ?_
        first | refine q_31E rfl (by decide) hn ?_ | refine q_31 rfl (by decide) ?_
        refine q_geN (by omega) (by omega) (fun hh => absurd hh (by omega)) (fun hh => ?_)
        refine q_3 rfl ?_
        refine q_3 rfl ?_
        first | refine q_bitT (by assumption) (by omega) (by omega) ?_ | refine q_bitF (by assumption) (by omega) (by omega) ?_ | refine q_bit (by omega) (by omega) ?_ | refine q_bitM (by first | omega | assumption) (by omega) ?_
        first | refine q_eqN0 (by omega) (fun hh => ?_) (fun hh => absurd hh (by omega)) | refine q_eqI0 (fun hh => ?_) (fun hh => absurd (by omega) hh)
        refine q_0 ?_
        refine q_6 rfl rfl rfl ?_
        refine q_3 rfl ?_
        first | refine q_eqN0 (by omega) (fun hh => ?_) (fun hh => absurd hh (by omega)) | refine q_eqI0 (fun hh => ?_) (fun hh => absurd (by omega) hh)
        first | refine q_inc rfl rfl rfl ?_ | refine q_9 rfl rfl rfl ?_
        refine q_23 ?_
        exact ih (by omega) hf _
      | true =>
        by_cases hok : 0 < al a b
        · by_cases heq : hT (fun _ _ => 1) (okA al) n (sm (sm S a) b) + 1 = hT (fun _ _ => 1) (okA al) n S
          · rw [fnd_yes hb (by rw [← es, hsb, show okA al a b = true from decide_eq_true hok]; simp [heq])] at hf
            refine q_3 rfl ?_
            refine q_5 rfl ?_
            refine q_33 rfl (by decide) (hP _ _ _ rfl) ?_
            first | refine q_31E rfl (by decide) hn ?_ | refine q_31 rfl (by decide) ?_
            refine q_geN (by omega) (by omega) (fun hh => absurd hh (by omega)) (fun hh => ?_)
            refine q_3 rfl ?_
            refine q_3 rfl ?_
            first | refine q_bitT (by assumption) (by omega) (by omega) ?_ | refine q_bitF (by assumption) (by omega) (by omega) ?_ | refine q_bit (by omega) (by omega) ?_ | refine q_bitM (by first | omega | assumption) (by omega) ?_
            first | refine q_eqN0 (by omega) (fun hh => absurd hh (by omega)) (fun hh => ?_) | refine q_eqI0 (fun hh => absurd hh (by omega)) (fun hh => ?_)
            refine q_0 ?_
            refine q_23 ?_
            refine q_6 rfl rfl rfl ?_
            refine q_3 rfl ?_
            first | refine q_eqN0 (by omega) (fun hh => absurd hh (by omega)) (fun hh => ?_) | refine q_eqI0 (fun hh => absurd hh (by omega)) (fun hh => ?_)
            refine q_5 rfl ?_
            refine q_3 rfl ?_
            refine q_0 ?_
            first | refine q_mul ?_ | refine q_11 rfl ?_
            refine q_3 rfl ?_
            first | refine q_add ?_ | refine q_11 rfl ?_
            refine q_38E (a * 10 + b) hg hg7 rfl (by omega) (by omega) gv ?_
            refine q_leI0 (fun z => absurd hok (Int32.not_lt.mpr z)) (fun _ => ?_)
            refine q_5 rfl ?_
            refine q_33 rfl (by decide) (hP _ _ _ rfl) ?_
            refine q_3 rfl ?_
            refine q_0 ?_
            refine q_3 rfl ?_
            first | refine q_shl1 (by omega) ?_ | refine q_11 rfl ?_
            first | refine q_xorN ?_ | refine q_11 rfl ?_
            rw [mask_x hb hsb]
            first | refine q_39E _ rfl (by decide) rfl (by show _ < 1024; omega) (by decide) (u1) ?_ | refine q_39 _ rfl (by decide) rfl (by show _ < 1024; omega) (by decide) ?_
            refine q_4 rfl ?_
            refine q_17 ?_
            refine q_neI0 (fun z => absurd ((lg_cmp_eq _ _).mpr ((lN_pred (by omega) (by omega)).mpr heq)) z) (fun _ => ?_)
            refine q_3 rfl ?_
            refine q_26 ?_
            exact kQ k (by rw [← hf]; rfl)
          · rw [fnd_no hb (by simp [heq])] at hf
            refine q_3 rfl ?_
            refine q_5 rfl ?_
            refine q_33 rfl (by decide) (hP _ _ _ rfl) ?_
            first | refine q_31E rfl (by decide) hn ?_ | refine q_31 rfl (by decide) ?_
            refine q_geN (by omega) (by omega) (fun hh => absurd hh (by omega)) (fun hh => ?_)
            refine q_3 rfl ?_
            refine q_3 rfl ?_
            first | refine q_bitT (by assumption) (by omega) (by omega) ?_ | refine q_bitF (by assumption) (by omega) (by omega) ?_ | refine q_bit (by omega) (by omega) ?_ | refine q_bitM (by first | omega | assumption) (by omega) ?_
            first | refine q_eqN0 (by omega) (fun hh => absurd hh (by omega)) (fun hh => ?_) | refine q_eqI0 (fun hh => absurd hh (by omega)) (fun hh => ?_)
            refine q_0 ?_
            refine q_23 ?_
            refine q_6 rfl rfl rfl ?_
            refine q_3 rfl ?_
            first | refine q_eqN0 (by omega) (fun hh => absurd hh (by omega)) (fun hh => ?_) | refine q_eqI0 (fun hh => absurd hh (by omega)) (fun hh => ?_)
            refine q_5 rfl ?_
            refine q_3 rfl ?_
            refine q_0 ?_
            first | refine q_mul ?_ | refine q_11 rfl ?_
            refine q_3 rfl ?_
            first | refine q_add ?_ | refine q_11 rfl ?_
            refine q_38E (a * 10 + b) hg hg7 rfl (by omega) (by omega) gv ?_
            refine q_leI0 (fun z => absurd hok (Int32.not_lt.mpr z)) (fun _ => ?_)
            refine q_5 rfl ?_
            refine q_33 rfl (by decide) (hP _ _ _ rfl) ?_
            refine q_3 rfl ?_
            refine q_0 ?_
            refine q_3 rfl ?_
            first | refine q_shl1 (by omega) ?_ | refine q_11 rfl ?_
            first | refine q_xorN ?_ | refine q_11 rfl ?_
            rw [mask_x hb hsb]
            first | refine q_39E _ rfl (by decide) rfl (by show _ < 1024; omega) (by decide) (u1) ?_ | refine q_39 _ rfl (by decide) rfl (by show _ < 1024; omega) (by decide) ?_
            refine q_4 rfl ?_
            refine q_17 ?_
            refine q_neI0 (fun _ => ?_) (fun z => absurd (fun q => heq ((lN_pred (by omega) (by omega)).mp ((lg_cmp_eq _ _).mp q))) z)
            first | refine q_inc rfl rfl rfl ?_ | refine q_9 rfl rfl rfl ?_
            refine q_23 ?_
            exact ih (by omega) hf _
        · rw [fnd_no hb (by unfold okA; simp [hok])] at hf
          refine q_3 rfl ?_
          refine q_5 rfl ?_
          refine q_33 rfl (by decide) (hP _ _ _ rfl) ?_
          first | refine q_31E rfl (by decide) hn ?_ | refine q_31 rfl (by decide) ?_
          refine q_geN (by omega) (by omega) (fun hh => absurd hh (by omega)) (fun hh => ?_)
          refine q_3 rfl ?_
          refine q_3 rfl ?_
          first | refine q_bitT (by assumption) (by omega) (by omega) ?_ | refine q_bitF (by assumption) (by omega) (by omega) ?_ | refine q_bit (by omega) (by omega) ?_ | refine q_bitM (by first | omega | assumption) (by omega) ?_
          first | refine q_eqN0 (by omega) (fun hh => absurd hh (by omega)) (fun hh => ?_) | refine q_eqI0 (fun hh => absurd hh (by omega)) (fun hh => ?_)
          refine q_0 ?_
          refine q_23 ?_
          refine q_6 rfl rfl rfl ?_
          refine q_3 rfl ?_
          first | refine q_eqN0 (by omega) (fun hh => absurd hh (by omega)) (fun hh => ?_) | refine q_eqI0 (fun hh => absurd hh (by omega)) (fun hh => ?_)
          refine q_5 rfl ?_
          refine q_3 rfl ?_
          refine q_0 ?_
          first | refine q_mul ?_ | refine q_11 rfl ?_
          refine q_3 rfl ?_
          first | refine q_add ?_ | refine q_11 rfl ?_
          refine q_38E (a * 10 + b) hg hg7 rfl (by omega) (by omega) gv ?_
          refine q_leI0 (fun _ => ?_) (fun z => absurd (Int32.not_lt.mp hok) z)
          first | refine q_inc rfl rfl rfl ?_ | refine q_9 rfl rfl rfl ?_
          refine q_23 ?_
          exact ih (by omega) hf _
  show mj_run (mj_ev d) k94 Q (k94 0) [some (.ref 60), some (.ref g), some (.int (nI a)), some (.int (nI (maskF (sm S a) n))), some (.long (lN (hT (fun _ _ => 1) (okA al) n S) - lN 1)), none, none, none] [] (107, I, L, P) 0 0
  refine q_3 rfl ?_
  refine q_0 ?_
  first | refine q_add ?_ | refine q_11 rfl ?_
  refine q_6 rfl rfl rfl ?_
  exact L5 (a + 1) (by omega) (Nat.le_refl _) rfl _
theorem c_95 (hP : PS t P) (k : ∀ I', Eqf (frm [61] []) I I' → (∀ p, p < 10 → I' 61 p = -(nI 1)) → Q (.inl none) (107, I', L, P)) : mj_ev (d + 1) 95 [.ref 60] (107, I, L, P) Q := by
  refine ⟨rfl, ?_⟩
  have L2 : ∀ i, i ≤ 10 → ∀ I', Eqf (frm [61] []) I I' → (∀ p, p < i → I' 61 p = -(nI 1)) → mj_run (mj_ev d) k95 Q (k95 2) [some (.ref 60), some (.int (nI i))] [] (107, I', L, P) 0 0 := by
    refine loop_up ?_ (fun i hi ih => ?_)
    · intro I' e' z
      refine q_3 rfl ?_
      refine q_0 ?_
      refine q_geN (by omega) (by omega) (fun hh => ?_) (fun hh => absurd hh (by omega))
      refine q_25 ?_
      exact k I' e' z
    · intro I' e' z
      refine q_3 rfl ?_
      refine q_0 ?_
      refine q_geN (by omega) (by omega) (fun hh => absurd hh (by omega)) (fun hh => ?_)
      refine q_5 rfl ?_
      refine q_33 rfl (by decide) (hP _ _ _ rfl) ?_
      refine q_3 rfl ?_
      refine q_1 ?_
      refine q_42 _ rfl (by decide) rfl (by show _ < 10; omega) (by decide) ?_
      first | refine q_inc rfl rfl rfl ?_ | refine q_9 rfl rfl rfl ?_
      refine q_23 ?_
      refine ih _ (e'.up rfl) (fun p hp => ?_)
      rw [upI_if]
      split
      · rfl
      · exact z p (by omega)
  show mj_run (mj_ev d) k95 Q (k95 0) [some (.ref 60), none] [] (107, I, L, P) 0 0
  refine q_0 ?_
  refine q_6 rfl rfl rfl ?_
  exact L2 0 (by omega) I Eqf.rf (fun p hp => absurd hp (by omega))
theorem c_93 {g lg : Nat} {F : Nat → Bool} (hP : PS t P) (hg : mj_sh g = 1) (hg7 : g < 107) (hgn : g ≠ 61) (lg0 : mj_ln g = lg) (hlg : 100 ≤ lg ∧ lg < 10000) (hn : I 3 0 = nI n) (hn10 : n ≤ 10) (hG : ∀ a b, a < b → b < n → I g (a * 10 + b) = al a b) (hT' : TC al n 0 (2 ^ n) L) (k : ∀ I', Eqf (frm [61] []) I I' → (∀ p, p < n → I' 61 p = mI (fr1 (okA al) n F p)) → Q (.inl none) (107, I', L, P)) : mj_ev (d + 2) 93 [.ref 60, .ref g, .int (nI (maskF F n))] (107, I, L, P) Q := by
  refine ⟨rfl, ?_⟩
  have L9 : ∀ i, i ≤ n → ∀ (st : (Nat → Bool) × MM) I' x5 x6, Eqf (frm [61] []) I I' → (∀ p, p < n → I' 61 p = mI (st.2 p)) → (∀ p, st.1 p = true → st.2 p = none) → fld n i (frF (okA al) n) st = fld n 0 (frF (okA al) n) (F, fun _ => none) → mj_run (mj_ev (d + 1)) k93 Q (k93 9) [some (.ref 60), some (.ref g), some (.int (nI (maskF F n))), some (.int (nI (maskF st.1 n))), some (.int (nI i)), x5, x6] [] (107, I', L, P) 0 0 := by
    refine loop_up ?_ (fun i hi ih => ?_)
    · intro st I' x5 x6 e' z1 z2 hf
      rw [fld_end (Nat.le_refl _)] at hf
      have hn' : I' 3 0 = nI n := (e' 3 0 rfl).trans hn
      refine q_3 rfl ?_
      refine q_5 rfl ?_
      refine q_33 rfl (by decide) (hP _ _ _ rfl) ?_
      first | refine q_31E rfl (by decide) hn' ?_ | refine q_31 rfl (by decide) ?_
      refine q_geN (by omega) (by omega) (fun hh => ?_) (fun hh => absurd hh (by omega))
      refine q_25 ?_
      exact k I' e' (fun p hp => by unfold fr1; rw [← hf]; exact z1 p hp)
    · intro st I' x5 x6 e' z1 z2 hf
      obtain ⟨S, m1⟩ := st
      rw [fld_step hi] at hf
      have hn' : I' 3 0 = nI n := (e' 3 0 rfl).trans hn
      have z1' : ∀ p, p < n → I' 61 p = mI (m1 p) := z1
      have z2' : ∀ p, S p = true → m1 p = none := z2
      have mS := mask_lt10 S hn10
      show mj_run (mj_ev (d + 1)) k93 Q (k93 9) [some (.ref 60), some (.ref g), some (.int (nI (maskF F n))), some (.int (nI (maskF S n))), some (.int (nI i)), x5, x6] [] (107, I', L, P) 0 0
      cases hSi : S i with
      | false =>
        rw [show frF (okA al) n (S, m1) i = (S, m1) from if_neg (by show ¬ S i = true; rw [hSi]; exact fun z => by cases z)] at hf
        refine q_3 rfl ?_
        refine q_5 rfl ?_
        refine q_33 rfl (by decide) (hP _ _ _ rfl) ?_
        first | refine q_31E rfl (by decide) hn' ?_ | refine q_31 rfl (by decide) ?_
        refine q_geN (by omega) (by omega) (fun hh => absurd hh (by omega)) (fun hh => ?_)
        refine q_3 rfl ?_
        refine q_3 rfl ?_
        first | refine q_bitT (by assumption) (by omega) (by omega) ?_ | refine q_bitF (by assumption) (by omega) (by omega) ?_ | refine q_bit (by omega) (by omega) ?_ | refine q_bitM (by first | omega | assumption) (by omega) ?_
        first | refine q_eqN0 (by omega) (fun hh => ?_) (fun hh => absurd hh (by omega)) | refine q_eqI0 (fun hh => ?_) (fun hh => absurd (by omega) hh)
        first | refine q_inc rfl rfl rfl ?_ | refine q_9 rfl rfl rfl ?_
        refine q_23 ?_
        exact ih (S, m1) I' _ _ e' z1 z2 hf
      | true =>
        have u1 : L 59 (maskF S n) = lN (hT (fun _ _ => 1) (okA al) n S) := hT' S (maskF_lt S n)
        have hG' : ∀ a b, a < b → b < n → I' g (a * 10 + b) = al a b := fun a b h1 h2 => (e' g _ (by unfold frm; simp [hgn])).trans (hG a b h1 h2)
        cases hw : wm (okA al) n S i with
        | none =>
          rw [show frF (okA al) n (S, m1) i = (sm S i, m1) from by unfold frF; rw [if_pos hSi]; show (match wm (okA al) n S i with | none => _ | some b => _) = _; rw [hw]] at hf
          refine q_3 rfl ?_
          refine q_5 rfl ?_
          refine q_33 rfl (by decide) (hP _ _ _ rfl) ?_
          first | refine q_31E rfl (by decide) hn' ?_ | refine q_31 rfl (by decide) ?_
          refine q_geN (by omega) (by omega) (fun hh => absurd hh (by omega)) (fun hh => ?_)
          refine q_3 rfl ?_
          refine q_3 rfl ?_
          first | refine q_bitT (by assumption) (by omega) (by omega) ?_ | refine q_bitF (by assumption) (by omega) (by omega) ?_ | refine q_bit (by omega) (by omega) ?_ | refine q_bitM (by first | omega | assumption) (by omega) ?_
          first | refine q_eqN0 (by omega) (fun hh => absurd hh (by omega)) (fun hh => ?_) | refine q_eqI0 (fun hh => absurd hh (by omega)) (fun hh => ?_)
          refine q_3 rfl ?_
          refine q_0 ?_
          refine q_3 rfl ?_
          first | refine q_shl1 (by omega) ?_ | refine q_11 rfl ?_
          first | refine q_xorN ?_ | refine q_11 rfl ?_
          rw [mask_x hi hSi]
          refine q_6 rfl rfl rfl ?_
          refine q_5 rfl ?_
          refine q_5 rfl ?_
          refine q_3 rfl ?_
          refine q_3 rfl ?_
          refine q_5 rfl ?_
          refine q_33 rfl (by decide) (hP _ _ _ rfl) ?_
          refine q_3 rfl ?_
          first | refine q_39E _ rfl (by decide) rfl (by show _ < 1024; omega) (by decide) (u1) ?_ | refine q_39 _ rfl (by decide) rfl (by show _ < 1024; omega) (by decide) ?_
          refine q_2 ?_
          refine q_13 rfl ?_
          refine q_47 (mj_ev_mono _) [_, _, _, _] rfl rfl rfl (by decide) rfl rfl rfl ?_
          refine c_94 (S := S) hP hg hg7 lg0 hlg hn' hn10 hG' hT' hi hSi ?_
          rw [hw]
          refine q_6 rfl rfl rfl ?_
          refine q_5 rfl ?_
          refine q_33 rfl (by decide) (hP _ _ _ rfl) ?_
          refine q_3 rfl ?_
          refine q_3 rfl ?_
          refine q_42 _ rfl (by decide) rfl (by show _ < 10; omega) (by decide) ?_
          refine q_3 rfl ?_
          refine q_6 rfl rfl rfl ?_
          refine q_3 rfl ?_
          refine q_1 ?_
          refine q_eqI (fun _ => ?_) (fun z => absurd rfl z)
          first | refine q_inc rfl rfl rfl ?_ | refine q_9 rfl rfl rfl ?_
          refine q_23 ?_
          refine ih (sm S i, m1) _ _ _ (e'.up rfl) (fun p hp => ?_) (fun p hp => z2' p (sm_t.mp hp).1) hf
          rw [upI_if]
          split
          · rename_i e
            subst e
            show _ = mI (m1 p)
            rw [z2' p hSi]
          · exact z1' p hp
        | some q =>
          obtain ⟨q1, q2, q3, -⟩ := fnd_some hw
          have hSq : S q = true := by
            rw [Bool.and_eq_true, Bool.and_eq_true] at q3
            exact q3.1.1
          rw [show frF (okA al) n (S, m1) i = (sm (sm S i) q, bnd m1 i q) from by unfold frF; rw [if_pos hSi]; show (match wm (okA al) n S i with | none => _ | some b => _) = _; rw [hw]] at hf
          refine q_3 rfl ?_
          refine q_5 rfl ?_
          refine q_33 rfl (by decide) (hP _ _ _ rfl) ?_
          first | refine q_31E rfl (by decide) hn' ?_ | refine q_31 rfl (by decide) ?_
          refine q_geN (by omega) (by omega) (fun hh => absurd hh (by omega)) (fun hh => ?_)
          refine q_3 rfl ?_
          refine q_3 rfl ?_
          first | refine q_bitT (by assumption) (by omega) (by omega) ?_ | refine q_bitF (by assumption) (by omega) (by omega) ?_ | refine q_bit (by omega) (by omega) ?_ | refine q_bitM (by first | omega | assumption) (by omega) ?_
          first | refine q_eqN0 (by omega) (fun hh => absurd hh (by omega)) (fun hh => ?_) | refine q_eqI0 (fun hh => absurd hh (by omega)) (fun hh => ?_)
          refine q_3 rfl ?_
          refine q_0 ?_
          refine q_3 rfl ?_
          first | refine q_shl1 (by omega) ?_ | refine q_11 rfl ?_
          first | refine q_xorN ?_ | refine q_11 rfl ?_
          rw [mask_x hi hSi]
          refine q_6 rfl rfl rfl ?_
          refine q_5 rfl ?_
          refine q_5 rfl ?_
          refine q_3 rfl ?_
          refine q_3 rfl ?_
          refine q_5 rfl ?_
          refine q_33 rfl (by decide) (hP _ _ _ rfl) ?_
          refine q_3 rfl ?_
          first | refine q_39E _ rfl (by decide) rfl (by show _ < 1024; omega) (by decide) (u1) ?_ | refine q_39 _ rfl (by decide) rfl (by show _ < 1024; omega) (by decide) ?_
          refine q_2 ?_
          refine q_13 rfl ?_
          refine q_47 (mj_ev_mono _) [_, _, _, _] rfl rfl rfl (by decide) rfl rfl rfl ?_
          refine c_94 (S := S) hP hg hg7 lg0 hlg hn' hn10 hG' hT' hi hSi ?_
          rw [hw, show mI (some q) = nI q from rfl]
          refine q_6 rfl rfl rfl ?_
          refine q_5 rfl ?_
          refine q_33 rfl (by decide) (hP _ _ _ rfl) ?_
          refine q_3 rfl ?_
          refine q_3 rfl ?_
          refine q_42 _ rfl (by decide) rfl (by show _ < 10; omega) (by decide) ?_
          refine q_3 rfl ?_
          refine q_6 rfl rfl rfl ?_
          refine q_3 rfl ?_
          refine q_1 ?_
          refine q_eqI (fun z => absurd z (mI_ne (by omega))) (fun _ => ?_)
          refine q_5 rfl ?_
          refine q_33 rfl (by decide) (hP _ _ _ rfl) ?_
          refine q_3 rfl ?_
          refine q_3 rfl ?_
          refine q_42 _ rfl (by decide) rfl (by show _ < 10; omega) (by decide) ?_
          refine q_3 rfl ?_
          refine q_0 ?_
          refine q_3 rfl ?_
          first | refine q_shl1 (by omega) ?_ | refine q_11 rfl ?_
          first | refine q_xorN ?_ | refine q_11 rfl ?_
          rw [mask_x q2 (sm_t.mpr ⟨hSq, by omega⟩)]
          refine q_6 rfl rfl rfl ?_
          first | refine q_inc rfl rfl rfl ?_ | refine q_9 rfl rfl rfl ?_
          refine q_23 ?_
          refine ih (sm (sm S i) q, bnd m1 i q) _ _ _ ((e'.up rfl).up rfl) (fun p hp => ?_) (fun p hp => ?_) hf
          · show _ = mI (if p = q then some i else if p = i then some q else m1 p)
            rw [upI_if]
            by_cases e1 : p = q
            · rw [if_pos e1, if_pos e1]
              rfl
            · rw [if_neg e1, if_neg e1, upI_if]
              by_cases e2 : p = i
              · rw [if_pos e2, if_pos e2]
                rfl
              · rw [if_neg e2, if_neg e2]
                exact z1' p hp
          · have h1 := sm_t.mp hp
            have h2 := sm_t.mp h1.1
            show (if p = q then some i else if p = i then some q else m1 p) = none
            rw [if_neg h1.2, if_neg h2.2]
            exact z2' p h2.1
  show mj_run (mj_ev (d + 1)) k93 Q (k93 0) [some (.ref 60), some (.ref g), some (.int (nI (maskF F n))), none, none, none, none] [] (107, I, L, P) 0 0
  refine q_5 rfl ?_
  refine q_47 (mj_ev_mono _) [] rfl rfl rfl (by decide) rfl rfl rfl ?_
  refine c_95 hP (fun I1 e1 z => ?_)
  refine q_3 rfl ?_
  refine q_6 rfl rfl rfl ?_
  refine q_0 ?_
  refine q_6 rfl rfl rfl ?_
  exact L9 0 (by omega) (F, fun _ => none) I1 _ _ e1 (fun p hp => z p (by omega)) (fun _ _ => rfl) rfl
/-- what is reached ahead of the next FAIR, and the rest stays -/
theorem CS.r1 {I1 : mj_I} {k0 k1 : Nat} (hS : CS A I) (g1 : k1 ≤ 8) (g2 : k0 ≤ k1) (h48 : I 48 4 = nI k0) (hk0 : k0 ≤ 8) (e1 : Eqf (frm [13, 15, 49] [(48, 4)]) I I1) (j48 : I1 48 4 = nI k1) (hG1 : GV A.w A.c A.h k1 I1) : CS A I1 := by
  obtain ⟨hB, hO, hK, hU, hZ, hD⟩ := hS
  refine ⟨hB.fm e1 (by intro c hc j; simp only [List.mem_cons, List.not_mem_nil, or_false] at hc; rcases hc with rfl | rfl | rfl <;> rfl) (by intro q hq; simp only [List.mem_cons, List.not_mem_nil, or_false] at hq; subst hq; rfl), ⟨k1, g1, j48, hG1⟩, hK.fr (e1 51 4 rfl) (funext fun j => e1 52 j rfl), hU.fr (e1 55 1 rfl) (funext fun j => e1 56 j rfl) (funext fun j => e1 57 j rfl) (fun k h1 h8 hk => ⟨k1, by have := (nI_eq (by omega) (by omega)).mp (h48.symm.trans hk); omega, g1, j48⟩), hZ.fr (e1 60 1 rfl) (e1 60 2 rfl) (funext fun j => e1 62 j rfl) (funext fun j => e1 63 j rfl), hD.fr (fun j => e1 65 j rfl) (funext fun j => e1 66 j rfl)⟩
/-- cells that hold nothing over calls -/
theorem CS.fx {I' : mj_I} {cs : List Nat} (hS : CS A I) (e : Eqf (frm cs []) I I') (hc : cs.all (fun c => [13, 15, 50, 53, 54, 58, 61, 64, 67, 68, 69, 70, 71, 72].contains c) = true) : CS A I' := by
  have e2 : Eqf (frm [13, 15, 50, 53, 54, 58, 61, 64, 67, 68, 69, 70, 71, 72] []) I I' := e.to hc rfl
  obtain ⟨hB, hO, hK, hU, hZ, hD⟩ := hS
  exact ⟨hB.fm e2 (by intro c hc j; simp only [List.mem_cons, List.not_mem_nil, or_false] at hc; rcases hc with rfl | rfl | rfl | rfl | rfl | rfl | rfl | rfl | rfl | rfl | rfl | rfl | rfl | rfl <;> rfl) (fun q hq => by cases hq), hO.fr (e2 48 4 rfl) (funext fun j => e2 49 j rfl), hK.fr (e2 51 4 rfl) (funext fun j => e2 52 j rfl), hU.fr (e2 55 1 rfl) (funext fun j => e2 56 j rfl) (funext fun j => e2 57 j rfl) (fun k h1 h8 hk => ⟨k, h1, h8, (e2 48 4 rfl).trans hk⟩), hZ.fr (e2 60 1 rfl) (e2 60 2 rfl) (funext fun j => e2 62 j rfl) (funext fun j => e2 63 j rfl), hD.fr (fun j => e2 65 j rfl) (funext fun j => e2 66 j rfl)⟩
theorem kC.fl {cs : List Nat} {fs : List (Nat × Nat)} {I1 : mj_I} {L1 : mj_L} {v : mj_R} (k : kC Q I L P A v) (e : Eqf (frm cs fs) I I1) (eL : EqL (frm [59] []) L L1) (hS : CS A I1) (hc : cs.all (fun c => Nat.blt c 73) = true) (hf : fs.all (fun q => Nat.blt q.1 73) = true) : Q v (107, I1, L1, P) := k I1 L1 hS (fun c j h73 => e c j (frm_hi h73 hc hf)) (fun c j h73 => eL c j (frm_hi h73 rfl rfl))
theorem g_given {k1 : Nat} (hv : GV w c h k1 I) (hk : 1 ≤ k1) : ∀ a b, a < b → b < w.n → I 49 (a * 10 + b) = alk w c h a b := by
  intro a b hab hb
  have := hv 0 (by omega) a b (by omega) hb (by omega)
  rw [show 100 * 0 + 10 * a + b = a * 10 + b by omega] at this
  exact this
end C
