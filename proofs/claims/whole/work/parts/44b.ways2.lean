/-! the model: as many couples as could be, the most alike, one colour -/
def frs (m : MM) (p : Nat) : Bool := !bm m p
theorem alk_one {w : WT} {h : Nat → Nat} (c : Nat) : alk w (fun _ => c) h = alk w (fun _ => 0) h := by
  funext a b
  unfold alk
  have : ∀ x : Nat, dif x x = 0 := fun x => by unfold dif; simp
  unfold alkV
  rw [this c, this 0]
section M
variable {I : mj_I} {L : mj_L} {P : mj_P} {Q : mj_Q} {d n r t a b : Nat} {A : AS} {w : WT} {c h : Nat → Nat} {m : MM} {S : Nat → Bool} {al : Nat → Nat → Int32}
theorem s_243 (hP : PS t P) (hr : r ≤ 33) (hW : MT w I) (hR : RW w.n r c h m I) (h94 : I 94 0 = nI 0) (h95 : L 95 0 = 0) (k : ∀ I' L', Eqf FW I I' → EqL FWL L L' → AL (alk w c h) w.n I' → TB (alk w c h) w.n (2 ^ w.n) I' L' → Q (.inl (some (.int (nI (maskF (frs m) w.n))))) (107, I', L', P)) : mj_ev (d + 5) 243 [.ref 73, .int (nI r)] (107, I, L, P) Q := by
  refine ⟨rfl, ?_⟩
  have hn10 := hW.n10
  have hn := hW.hn
  have p2 := Nat.two_pow_pos w.n
  have p10 : 2 ^ w.n ≤ 1024 := Nat.pow_le_pow_right (n := 2) (by decide) hn10
  have L83 : ∀ s, s ≤ 2 ^ w.n → 1 ≤ s → ∀ I' L' x4, Eqf FW I I' → EqL FWL L L' → AL (alk w c h) w.n I' → TB (alk w c h) w.n s I' L' → mj_run (mj_ev (d + 4)) k243 Q (k243 83) [some (.ref 73), some (.int (nI r)), some (.int (nI (maskF (frs m) w.n))), some (.int (nI s)), x4] [] (107, I', L', P) 0 0 := by
    refine loop_up ?_ (fun s hs ih => ?_)
    · intro _ I' L' x4 e' eL hA hT
      have hn' := (hW.fw e').hn
      refine q_3 rfl ?_
      refine q_0 ?_
      refine q_5 rfl ?_
      first | refine q_31E rfl (by decide) hn' ?_ | refine q_31 rfl (by decide) ?_
      first | refine q_shl1 (by omega) ?_ | refine q_11 rfl ?_
      refine q_geN (by omega) (by omega) (fun hh => ?_) (fun hh => absurd hh (by omega))
      refine q_3 rfl ?_
      refine q_26 ?_
      exact k I' L' e' eL hA hT
    · intro hs1 I' L' x4 e' eL hA hT
      have hn' := (hW.fw e').hn
      have es := mask_test hs
      obtain ⟨a, ha, hSa, hl⟩ := mask_pos (S := fun i => s.testBit i) (n := w.n) (by rw [← es]; omega)
      refine q_3 rfl ?_
      refine q_0 ?_
      refine q_5 rfl ?_
      first | refine q_31E rfl (by decide) hn' ?_ | refine q_31 rfl (by decide) ?_
      first | refine q_shl1 (by omega) ?_ | refine q_11 rfl ?_
      refine q_geN (by omega) (by omega) (fun hh => absurd hh (by omega)) (fun hh => ?_)
      refine q_5 rfl ?_
      refine q_3 rfl ?_
      rw [es]
      refine q_47 (mj_ev_mono _) [_] rfl rfl rfl (by decide) rfl rfl rfl ?_
      rw [es] at hT
      refine s_245 (al := alk w c h) hP hn' hn10 hA hT ha hSa hl (fun I2 L2 e2 eL2 e93 hT2 => ?_)
      rw [← es] at hT2 ⊢
      first | refine q_inc rfl rfl rfl ?_ | refine q_9 rfl rfl rfl ?_
      refine q_23 ?_
      exact ih (by omega) I2 L2 _ (e'.tr e2) (eL.tr eL2) (fun x y hx hy => by rw [e93]; exact hA x y hx hy) hT2
  have L19 : ∀ a, a ≤ w.n → ∀ I' x4, Eqf FW I I' → I' 94 = I 94 → (∀ x y, x < w.n → y < w.n → x < a → I' 93 (10 * x + y) = if x = y then nI 0 else alk w c h x y) → mj_run (mj_ev (d + 4)) k243 Q (k243 19) [some (.ref 73), some (.int (nI r)), some (.int (nI (maskF (frs m) w.n))), some (.int (nI a)), x4] [] (107, I', L, P) 0 0 := by
    refine loop_up ?_ (fun a ha ih => ?_)
    · intro I' x4 e' e94 hA
      have hn' := (hW.fw e').hn
      refine q_3 rfl ?_
      refine q_5 rfl ?_
      first | refine q_31E rfl (by decide) hn' ?_ | refine q_31 rfl (by decide) ?_
      refine q_geN (by omega) (by omega) (fun hh => ?_) (fun hh => absurd hh (by omega))
      refine q_0 ?_
      refine q_6 rfl rfl rfl ?_
      refine L83 1 (by omega) (by omega) I' L _ e' EqL.rf (fun x y hx hy => hA x y hx hy hx) (fun S' hS' => ?_)
      have z : maskF S' w.n = 0 := by omega
      have zf : ∀ p, p < w.n → S' p = false := fun p hp => by
        have := congrArg (fun z => z.testBit p) z
        simp only [tb_mask, Nat.zero_testBit] at this
        simpa [hp] using this
      rw [z, hT_0 zf, hT_0 zf, e94]
      exact ⟨h94, h95⟩
    · intro I' x4 e' e94 hA
      have L30 : ∀ b, b ≤ w.n → ∀ I', Eqf FW I I' → I' 94 = I 94 → (∀ x y, x < w.n → y < w.n → (x < a ∨ x = a ∧ y < b) → I' 93 (10 * x + y) = if x = y then nI 0 else alk w c h x y) → mj_run (mj_ev (d + 4)) k243 Q (k243 30) [some (.ref 73), some (.int (nI r)), some (.int (nI (maskF (frs m) w.n))), some (.int (nI a)), some (.int (nI b))] [] (107, I', L, P) 0 0 := by
        refine loop_up ?_ (fun b hb ih2 => ?_)
        · intro I' e' e94 hA
          have hn' := (hW.fw e').hn
          refine q_3 rfl ?_
          refine q_5 rfl ?_
          first | refine q_31E rfl (by decide) hn' ?_ | refine q_31 rfl (by decide) ?_
          refine q_geN (by omega) (by omega) (fun hh => ?_) (fun hh => absurd hh (by omega))
          first | refine q_inc rfl rfl rfl ?_ | refine q_9 rfl rfl rfl ?_
          refine q_23 ?_
          exact ih I' _ e' e94 (fun x y hx hy hq => hA x y hx hy (by omega))
        · intro I' e' e94 hA
          have hn' := (hW.fw e').hn
          have fin : ∀ I2 v, Eqf FW I I2 → I2 94 = I 94 → I2 93 = I' 93 → v = (if a = b then nI 0 else alk w c h a b) → mj_run (mj_ev (d + 4)) k243 Q (k243 30) [some (.ref 73), some (.int (nI r)), some (.int (nI (maskF (frs m) w.n))), some (.int (nI a)), some (.int (nI (b + 1)))] [] (107, mj_upI I2 93 (10 * a + b) v, L, P) 0 0 := by
            intro I2 v e2 q94 q93 hv
            refine ih2 _ (e2.up rfl) q94 (fun x y hx hy hq => ?_)
            by_cases e : x = a ∧ y = b
            · obtain ⟨rfl, rfl⟩ := e
              rw [upI_s, hv]
            · rw [upI_j (by omega), q93]
              exact hA x y hx hy (by omega)
          by_cases hab : a = b
          · subst hab
            refine q_3 rfl ?_
            refine q_5 rfl ?_
            first | refine q_31E rfl (by decide) hn' ?_ | refine q_31 rfl (by decide) ?_
            refine q_geN (by omega) (by omega) (fun hh => absurd hh (by omega)) (fun hh => ?_)
            refine q_5 rfl ?_
            refine q_33 rfl (by decide) (hP _ _ _ rfl) ?_
            refine q_0 ?_
            refine q_3 rfl ?_
            first | refine q_mul ?_ | refine q_11 rfl ?_
            refine q_3 rfl ?_
            first | refine q_add ?_ | refine q_11 rfl ?_
            refine q_3 rfl ?_
            refine q_3 rfl ?_
            refine q_neN (by omega) (by omega) (fun hh => absurd hh (by omega)) (fun hh => ?_)
            refine q_0 ?_
            refine q_23 ?_
            refine q_42 _ rfl (by decide) rfl (by show _ < 100; omega) (by decide) ?_
            first | refine q_inc rfl rfl rfl ?_ | refine q_9 rfl rfl rfl ?_
            refine q_23 ?_
            exact fin I' _ e' e94 rfl (by rw [if_pos rfl])
          · refine q_3 rfl ?_
            refine q_5 rfl ?_
            first | refine q_31E rfl (by decide) hn' ?_ | refine q_31 rfl (by decide) ?_
            refine q_geN (by omega) (by omega) (fun hh => absurd hh (by omega)) (fun hh => ?_)
            refine q_5 rfl ?_
            refine q_33 rfl (by decide) (hP _ _ _ rfl) ?_
            refine q_0 ?_
            refine q_3 rfl ?_
            first | refine q_mul ?_ | refine q_11 rfl ?_
            refine q_3 rfl ?_
            first | refine q_add ?_ | refine q_11 rfl ?_
            refine q_3 rfl ?_
            refine q_3 rfl ?_
            refine q_neN (by omega) (by omega) (fun hh => ?_) (fun hh => absurd hh (by omega))
            refine q_5 rfl ?_
            refine q_3 rfl ?_
            refine q_3 rfl ?_
            refine q_3 rfl ?_
            refine q_47 (mj_ev_mono _) [_, _, _] rfl rfl rfl (by decide) rfl rfl rfl ?_
            refine s_205 hP hr (hW.fw e') (hR.fw e') ha hb (fun I2 e2 => ?_)
            refine q_42 _ rfl (by decide) rfl (by show _ < 100; omega) (by decide) ?_
            first | refine q_inc rfl rfl rfl ?_ | refine q_9 rfl rfl rfl ?_
            refine q_23 ?_
            exact fin I2 _ (e'.tr (FW_91 e2)) ((funext fun j => e2 94 j rfl).trans e94) (funext fun j => e2 93 j rfl) (by rw [if_neg hab])
      have hn' := (hW.fw e').hn
      refine q_3 rfl ?_
      refine q_5 rfl ?_
      first | refine q_31E rfl (by decide) hn' ?_ | refine q_31 rfl (by decide) ?_
      refine q_geN (by omega) (by omega) (fun hh => absurd hh (by omega)) (fun hh => ?_)
      refine q_0 ?_
      refine q_6 rfl rfl rfl ?_
      exact L30 0 (by omega) I' e' e94 (fun x y hx hy hq => hA x y hx hy (by omega))
  show mj_run (mj_ev (d + 4)) k243 Q (k243 0) [some (.ref 73), some (.int (nI r)), none, none, none] [] (107, I, L, P) 0 0
  refine q_0 ?_
  refine q_5 rfl ?_
  first | refine q_31E rfl (by decide) hn ?_ | refine q_31 rfl (by decide) ?_
  first | refine q_shl1 (by omega) ?_ | refine q_11 rfl ?_
  refine q_0 ?_
  first | refine q_sub (by omega) ?_ | refine q_11 rfl ?_
  refine q_5 rfl ?_
  refine q_3 rfl ?_
  refine q_47 (mj_ev_mono _) [_] rfl rfl rfl (by decide) rfl rfl rfl ?_
  refine s_215 hP hr hn hR ?_
  refine q_andnot ?_
  refine q_6 rfl rfl rfl ?_
  refine q_0 ?_
  refine q_6 rfl rfl rfl ?_
  rw [mask_all, mask_diff]
  exact L19 0 (by omega) I _ Eqf.rf rfl (fun x y _ _ hq => absurd hq (by omega))
theorem s_246 (hP : PS t P) (hn : I 73 1 = nI n) (hn10 : n ≤ 10) (hA : AL al n I) (hT' : TB al n (2 ^ n) I L) (ha : a < n) (hS : S a = true) (hl : ∀ p, p < a → S p = false) (k : Q (.inl (some (.int (mI (wm (okA al) n S a))))) (107, I, L, P)) : mj_ev (d + 2) 246 [.ref 73, .int (nI (maskF S n))] (107, I, L, P) Q := by
  refine ⟨rfl, ?_⟩
  have ms := mask_lt10 S hn10
  obtain ⟨t1, -⟩ := hT' S (maskF_lt S n)
  have b0 := hT1_le (al := al) S hn10
  have L18 : ∀ b, b ≤ n → a + 1 ≤ b → fnd n b (fun b => S b && okA al a b && decide (hT (fun _ _ => 1) (okA al) n (sm (sm S a) b) + 1 = hT (fun _ _ => 1) (okA al) n S)) = wm (okA al) n S a → mj_run (mj_ev (d + 1)) k246 Q (k246 18) [some (.ref 73), some (.int (nI (maskF S n))), some (.int (nI a)), some (.int (nI (maskF (sm S a) n))), some (.int (nI b))] [] (107, I, L, P) 0 0 := by
    refine loop_up ?_ (fun b hb ih => ?_)
    · intro _ hf
      rw [fnd_end (Nat.le_refl _)] at hf
      refine q_3 rfl ?_
      refine q_5 rfl ?_
      first | refine q_31E rfl (by decide) hn ?_ | refine q_31 rfl (by decide) ?_
      refine q_geN (by omega) (by omega) (fun hh => ?_) (fun hh => absurd hh (by omega))
      refine q_1 ?_
      refine q_26 ?_
      exact kQ k (by rw [← hf]; rfl)
    · intro hab hf
      have a93 : I 93 (10 * a + b) = al a b := by rw [hA a b ha hb, if_neg (by omega)]
      have ml := mask_lt10 (sm (sm S a) b) hn10
      obtain ⟨u1, -⟩ := hT' (sm (sm S a) b) (maskF_lt _ n)
      have b1 := hT1_le (al := al) (sm (sm S a) b) hn10
      have es : sm S a b = S b := by unfold sm; simp [show ¬ b = a by omega]
      cases hsb : sm S a b with
      | false =>
        rw [fnd_no hb (by rw [← es, hsb]; rfl)] at hf
        refine q_3 rfl ?_
        refine q_5 rfl ?_
        first | refine q_31E rfl (by decide) hn ?_ | refine q_31 rfl (by decide) ?_
        refine q_geN (by omega) (by omega) (fun hh => absurd hh (by omega)) (fun hh => ?_)
        refine q_3 rfl ?_
        refine q_3 rfl ?_
        first | refine q_bitT (by assumption) (by omega) (by omega) ?_ | refine q_bitF (by assumption) (by omega) (by omega) ?_ | refine q_bit (by omega) (by omega) ?_ | refine q_bitM (by first | omega | assumption) (by omega) ?_
        refine q_0 ?_
        refine q_neN (by omega) (by omega) (fun hh => ?_) (fun hh => absurd hh (by omega))
        first | refine q_inc rfl rfl rfl ?_ | refine q_9 rfl rfl rfl ?_
        refine q_23 ?_
        exact ih (by omega) hf
      | true =>
        by_cases hok : 0 < al a b
        · by_cases heq : hT (fun _ _ => 1) (okA al) n (sm (sm S a) b) + 1 = hT (fun _ _ => 1) (okA al) n S
          · rw [fnd_yes hb (by rw [← es, hsb, show okA al a b = true from decide_eq_true hok]; simp [heq])] at hf
            refine q_3 rfl ?_
            refine q_5 rfl ?_
            first | refine q_31E rfl (by decide) hn ?_ | refine q_31 rfl (by decide) ?_
            refine q_geN (by omega) (by omega) (fun hh => absurd hh (by omega)) (fun hh => ?_)
            refine q_3 rfl ?_
            refine q_3 rfl ?_
            first | refine q_bitT (by assumption) (by omega) (by omega) ?_ | refine q_bitF (by assumption) (by omega) (by omega) ?_ | refine q_bit (by omega) (by omega) ?_ | refine q_bitM (by first | omega | assumption) (by omega) ?_
            refine q_0 ?_
            refine q_neN (by omega) (by omega) (fun hh => absurd hh (by omega)) (fun hh => ?_)
            refine q_5 rfl ?_
            refine q_33 rfl (by decide) (hP _ _ _ rfl) ?_
            refine q_0 ?_
            refine q_3 rfl ?_
            first | refine q_mul ?_ | refine q_11 rfl ?_
            refine q_3 rfl ?_
            first | refine q_add ?_ | refine q_11 rfl ?_
            first | refine q_38E _ rfl (by decide) rfl (by show _ < 100; omega) (by decide) (a93) ?_ | refine q_38 _ rfl (by decide) rfl (by show _ < 100; omega) (by decide) ?_
            refine q_leI0 (fun z => absurd hok (Int32.not_lt.mpr z)) (fun _ => ?_)
            refine q_5 rfl ?_
            refine q_33 rfl (by decide) (hP _ _ _ rfl) ?_
            refine q_3 rfl ?_
            refine q_0 ?_
            refine q_3 rfl ?_
            first | refine q_shl1 (by omega) ?_ | refine q_11 rfl ?_
            refine q_andnot ?_
            rw [mask_sm _ hb]
            first | refine q_38E _ rfl (by decide) rfl (by show _ < 1024; omega) (by decide) (u1) ?_ | refine q_38E _ rfl (by decide) rfl (by show _ < 1024; omega) (by decide) (t1) ?_ | refine q_38 _ rfl (by decide) rfl (by show _ < 1024; omega) (by decide) ?_
            refine q_0 ?_
            first | refine q_add ?_ | refine q_11 rfl ?_
            refine q_5 rfl ?_
            refine q_33 rfl (by decide) (hP _ _ _ rfl) ?_
            refine q_3 rfl ?_
            first | refine q_38E _ rfl (by decide) rfl (by show _ < 1024; omega) (by decide) (u1) ?_ | refine q_38E _ rfl (by decide) rfl (by show _ < 1024; omega) (by decide) (t1) ?_ | refine q_38 _ rfl (by decide) rfl (by show _ < 1024; omega) (by decide) ?_
            refine q_neN (by omega) (by omega) (fun hh => absurd hh (by omega)) (fun hh => ?_)
            refine q_3 rfl ?_
            refine q_26 ?_
            exact kQ k (by rw [← hf]; rfl)
          · rw [fnd_no hb (by simp [heq])] at hf
            refine q_3 rfl ?_
            refine q_5 rfl ?_
            first | refine q_31E rfl (by decide) hn ?_ | refine q_31 rfl (by decide) ?_
            refine q_geN (by omega) (by omega) (fun hh => absurd hh (by omega)) (fun hh => ?_)
            refine q_3 rfl ?_
            refine q_3 rfl ?_
            first | refine q_bitT (by assumption) (by omega) (by omega) ?_ | refine q_bitF (by assumption) (by omega) (by omega) ?_ | refine q_bit (by omega) (by omega) ?_ | refine q_bitM (by first | omega | assumption) (by omega) ?_
            refine q_0 ?_
            refine q_neN (by omega) (by omega) (fun hh => absurd hh (by omega)) (fun hh => ?_)
            refine q_5 rfl ?_
            refine q_33 rfl (by decide) (hP _ _ _ rfl) ?_
            refine q_0 ?_
            refine q_3 rfl ?_
            first | refine q_mul ?_ | refine q_11 rfl ?_
            refine q_3 rfl ?_
            first | refine q_add ?_ | refine q_11 rfl ?_
            first | refine q_38E _ rfl (by decide) rfl (by show _ < 100; omega) (by decide) (a93) ?_ | refine q_38 _ rfl (by decide) rfl (by show _ < 100; omega) (by decide) ?_
            refine q_leI0 (fun z => absurd hok (Int32.not_lt.mpr z)) (fun _ => ?_)
            refine q_5 rfl ?_
            refine q_33 rfl (by decide) (hP _ _ _ rfl) ?_
            refine q_3 rfl ?_
            refine q_0 ?_
            refine q_3 rfl ?_
            first | refine q_shl1 (by omega) ?_ | refine q_11 rfl ?_
            refine q_andnot ?_
            rw [mask_sm _ hb]
            first | refine q_38E _ rfl (by decide) rfl (by show _ < 1024; omega) (by decide) (u1) ?_ | refine q_38E _ rfl (by decide) rfl (by show _ < 1024; omega) (by decide) (t1) ?_ | refine q_38 _ rfl (by decide) rfl (by show _ < 1024; omega) (by decide) ?_
            refine q_0 ?_
            first | refine q_add ?_ | refine q_11 rfl ?_
            refine q_5 rfl ?_
            refine q_33 rfl (by decide) (hP _ _ _ rfl) ?_
            refine q_3 rfl ?_
            first | refine q_38E _ rfl (by decide) rfl (by show _ < 1024; omega) (by decide) (u1) ?_ | refine q_38E _ rfl (by decide) rfl (by show _ < 1024; omega) (by decide) (t1) ?_ | refine q_38 _ rfl (by decide) rfl (by show _ < 1024; omega) (by decide) ?_
            refine q_neN (by omega) (by omega) (fun hh => ?_) (fun hh => absurd hh (by omega))
            first | refine q_inc rfl rfl rfl ?_ | refine q_9 rfl rfl rfl ?_
            refine q_23 ?_
            exact ih (by omega) hf
        · rw [fnd_no hb (by unfold okA; simp [hok])] at hf
          refine q_3 rfl ?_
          refine q_5 rfl ?_
          first | refine q_31E rfl (by decide) hn ?_ | refine q_31 rfl (by decide) ?_
          refine q_geN (by omega) (by omega) (fun hh => absurd hh (by omega)) (fun hh => ?_)
          refine q_3 rfl ?_
          refine q_3 rfl ?_
          first | refine q_bitT (by assumption) (by omega) (by omega) ?_ | refine q_bitF (by assumption) (by omega) (by omega) ?_ | refine q_bit (by omega) (by omega) ?_ | refine q_bitM (by first | omega | assumption) (by omega) ?_
          refine q_0 ?_
          refine q_neN (by omega) (by omega) (fun hh => absurd hh (by omega)) (fun hh => ?_)
          refine q_5 rfl ?_
          refine q_33 rfl (by decide) (hP _ _ _ rfl) ?_
          refine q_0 ?_
          refine q_3 rfl ?_
          first | refine q_mul ?_ | refine q_11 rfl ?_
          refine q_3 rfl ?_
          first | refine q_add ?_ | refine q_11 rfl ?_
          first | refine q_38E _ rfl (by decide) rfl (by show _ < 100; omega) (by decide) (a93) ?_ | refine q_38 _ rfl (by decide) rfl (by show _ < 100; omega) (by decide) ?_
          refine q_leI0 (fun _ => ?_) (fun z => absurd (Int32.not_lt.mp hok) z)
          first | refine q_inc rfl rfl rfl ?_ | refine q_9 rfl rfl rfl ?_
          refine q_23 ?_
          exact ih (by omega) hf
  show mj_run (mj_ev (d + 1)) k246 Q (k246 0) [some (.ref 73), some (.int (nI (maskF S n))), none, none, none] [] (107, I, L, P) 0 0
  refine q_3 rfl ?_
  refine q_48 (mj_ev_mono _) [_] rfl rfl rfl rfl rfl ?_
  refine s_244 hn10 ha hS hl ?_
  refine q_6 rfl rfl rfl ?_
  refine q_3 rfl ?_
  refine q_0 ?_
  refine q_3 rfl ?_
  first | refine q_shl1 (by omega) ?_ | refine q_11 rfl ?_
  refine q_andnot ?_
  rw [mask_sm _ ha]
  refine q_6 rfl rfl rfl ?_
  refine q_3 rfl ?_
  refine q_0 ?_
  first | refine q_add ?_ | refine q_11 rfl ?_
  refine q_6 rfl rfl rfl ?_
  exact L18 (a + 1) (by omega) (Nat.le_refl _) rfl
theorem s_247N (hP : PS t P) (hS : MS A I L) (k : kM Q I L P 0 (.int (nI (hT (fun _ _ => 1) (okA (alk A.w A.c A.h)) A.w.n (frs A.m))))) : mj_ev (d + 12) 247 [.ref 73, .int (-(nI 1))] (107, I, L, P) Q := by
  refine ⟨rfl, ?_⟩
  have hS0 := hS.i0
  have hn := hS0.hn
  have hn10 := hS.n10
  have ms := mask_lt10 (frs A.m) hn10
  show mj_run (mj_ev (d + 11)) k247 Q (k247 0) [some (.ref 73), some (.int (-(nI 1))), none, none, none] [] (107, I, L, P) 0 0
  refine q_5 rfl ?_
  refine q_0 ?_
  refine q_34 rfl (by decide) ?_
  refine q_5 rfl ?_
  refine q_3 rfl ?_
  refine q_1 ?_
  refine q_ltI (fun z => absurd z (by decide)) (fun _ => ?_)
  refine q_3 rfl ?_
  refine q_5 rfl ?_
  first | refine q_31E rfl (by decide) hn ?_ | refine q_31 rfl (by decide) ?_
  refine q_geI (fun z => absurd (Int32.lt_of_lt_of_le (by decide) (nI_pos' (n := A.w.n) (by omega))) (Int32.not_lt.mpr z)) (fun _ => ?_)
  refine q_0 ?_
  refine q_23 ?_
  refine q_0 ?_
  refine q_47 (mj_ev_mono _) [_, _] rfl rfl rfl (by decide) rfl rfl rfl ?_
  refine s_163T I0_th ?_
  first | refine q_neN0 (by omega) (fun hh => ?_) (fun hh => absurd hh (by omega)) | refine q_neI0 (fun hh => ?_) (fun hh => absurd (by omega) hh)
  refine q_5 rfl ?_
  refine q_0 ?_
  refine q_47 (mj_ev_mono _) [_] rfl rfl rfl (by decide) rfl rfl rfl ?_
  refine s_243 hP (by omega) hS0.mt hS0.rw hS0.2.2.2.2.2.2.2.2.2.1 hS0.2.2.2.2.2.2.2.2.2.2 (fun I1 L1 e1 eL1 hA hT => ?_)
  have v1 := (hT (frs A.m) (maskF_lt _ _)).1
  refine q_6 rfl rfl rfl ?_
  refine q_3 rfl ?_
  refine q_1 ?_
  refine q_neI (fun z => absurd rfl z) (fun _ => ?_)
  refine q_5 rfl ?_
  refine q_33 rfl (by decide) (hP _ _ _ rfl) ?_
  refine q_3 rfl ?_
  first | refine q_38E _ rfl (by decide) rfl (by show _ < 1024; omega) (by decide) (v1) ?_ | refine q_38 _ rfl (by decide) rfl (by show _ < 1024; omega) (by decide) ?_
  refine q_26 ?_
  exact k I1 L1 (I0_fm.tr (FW_fm e1)) (FWL_fl eL1) (e1 73 0 rfl)
theorem s_247 (hP : PS t P) (hS : MS A I L) (ha : a < A.w.n) (k : kM Q I L P 0 (.int (mI (fr1 (okA (alk A.w A.c A.h)) A.w.n (frs A.m) a)))) : mj_ev (d + 12) 247 [.ref 73, .int (nI a)] (107, I, L, P) Q := by
  refine ⟨rfl, ?_⟩
  have hS0 := hS.i0
  have hn := hS0.hn
  have hn10 := hS.n10
  have L51 : ∀ I1 L1, Eqf FW (I0 I) I1 → EqL FWL L L1 → AL (alk A.w A.c A.h) A.w.n I1 → TB (alk A.w A.c A.h) A.w.n (2 ^ A.w.n) I1 L1 → ∀ N (S : Nat → Bool) (m : MM) i x3 x4, maskF S A.w.n ≤ N → i ≤ A.w.n → (∀ p, p < i → S p = false) → m a = none → (fld A.w.n i (frF (okA (alk A.w A.c A.h)) A.w.n) (S, m)).2 a = fr1 (okA (alk A.w A.c A.h)) A.w.n (frs A.m) a → mj_run (mj_ev (d + 11)) k247 Q (k247 51) [some (.ref 73), some (.int (nI a)), some (.int (nI (maskF S A.w.n))), x3, x4] [] (107, I1, L1, P) 0 0 := by
    intro I1 L1 e1 eL1 hA hT N
    have hn1 : I1 73 1 = nI A.w.n := (e1 73 1 rfl).trans hn
    have fin : ∀ v : Int32, v = mI (fr1 (okA (alk A.w A.c A.h)) A.w.n (frs A.m) a) → Q (.inl (some (.int v))) (107, I1, L1, P) := by
      rintro v rfl
      exact k I1 L1 (I0_fm.tr (FW_fm e1)) (FWL_fl eL1) (e1 73 0 rfl)
    induction N with
    | zero =>
      intro S m i x3 x4 hN hi hl hma hf
      have z : maskF S A.w.n = 0 := Nat.le_zero.mp hN
      have zf : ∀ p, p < A.w.n → S p = false := fun p hp => by
        have := congrArg (fun z => z.testBit p) z
        simp only [tb_mask, Nat.zero_testBit] at this
        simpa [hp] using this
      rw [fr_stay hi (zf a ha)] at hf
      have hf' : m a = fr1 (okA (alk A.w A.c A.h)) A.w.n (frs A.m) a := hf
      rw [z]
      refine q_3 rfl ?_
      first | refine q_eqN0 (by omega) (fun hh => ?_) (fun hh => absurd hh (by omega)) | refine q_eqI0 (fun hh => ?_) (fun hh => absurd (by omega) hh)
      refine q_1 ?_
      refine q_26 ?_
      exact fin _ (by rw [← hf', hma]; rfl)
    | succ N ih =>
      intro S m i x3 x4 hN hi hl hma hf
      by_cases hz : maskF S A.w.n = 0
      · exact ih S m i x3 x4 (by omega) hi hl hma hf
      · obtain ⟨a0, ha0, hSa, hl0⟩ := mask_pos hz
        have lt1 := mask_sm_lt ha0 hSa
        have hia : i ≤ a0 := by
          rcases Nat.lt_or_ge a0 i with q | q
          · rw [hl a0 q] at hSa
            cases hSa
          · exact q
        have skip : ∀ j, j ≤ a0 → i ≤ j → fld A.w.n j (frF (okA (alk A.w A.c A.h)) A.w.n) (S, m) = fld A.w.n a0 (frF (okA (alk A.w A.c A.h)) A.w.n) (S, m) := loop_up (n := a0) (R := fun j => i ≤ j → fld A.w.n j (frF (okA (alk A.w A.c A.h)) A.w.n) (S, m) = fld A.w.n a0 (frF (okA (alk A.w A.c A.h)) A.w.n) (S, m)) (fun _ => rfl) (fun j hj ih2 hij => by
          rw [fld_step (by omega), show frF (okA (alk A.w A.c A.h)) A.w.n (S, m) j = (S, m) from if_neg (by show ¬ S j = true; rw [hl0 j hj]; decide)]
          exact ih2 (by omega))
        rw [skip i hia (Nat.le_refl _), fld_step ha0] at hf
        have ms := mask_lt10 S hn10
        have s0 : ∀ p, p < a0 + 1 → sm S a0 p = false := fun p hp => by
          unfold sm
          by_cases e : p = a0
          · simp [e]
          · rw [hl0 p (by omega)]
            rfl
        cases hw : wm (okA (alk A.w A.c A.h)) A.w.n S a0 with
        | none =>
          have ef : frF (okA (alk A.w A.c A.h)) A.w.n (S, m) a0 = (sm S a0, m) := by
            unfold frF
            rw [if_pos hSa]
            show (match wm (okA (alk A.w A.c A.h)) A.w.n S a0 with
              | none => (sm S a0, m)
              | some b => (sm (sm S a0) b, bnd m a0 b)) = _
            rw [hw]
          rw [ef] at hf
          by_cases hpa : a0 = a
          · subst hpa
            rw [fr_stay (by omega) (s0 a0 (by omega))] at hf
            have hf' : m a0 = fr1 (okA (alk A.w A.c A.h)) A.w.n (frs A.m) a0 := hf
            refine q_3 rfl ?_
            refine q_eqN0 (by omega) (fun z => absurd z hz) (fun _ => ?_)
            refine q_3 rfl ?_
            refine q_48 (mj_ev_mono _) [_] rfl rfl rfl rfl rfl ?_
            refine s_244 hn10 ha0 hSa hl0 ?_
            refine q_6 rfl rfl rfl ?_
            refine q_5 rfl ?_
            refine q_3 rfl ?_
            refine q_47 (mj_ev_mono _) [_] rfl rfl rfl (by decide) rfl rfl rfl ?_
            refine s_246 hP hn1 hn10 hA hT ha0 hSa hl0 ?_
            rw [hw]
            refine q_6 rfl rfl rfl ?_
            refine q_3 rfl ?_
            refine q_3 rfl ?_
            refine q_neN (by omega) (by omega) (fun hh => absurd hh (by omega)) (fun hh => ?_)
            refine q_3 rfl ?_
            refine q_26 ?_
            exact fin _ (by rw [← hf', hma])
          · refine q_3 rfl ?_
            refine q_eqN0 (by omega) (fun z => absurd z hz) (fun _ => ?_)
            refine q_3 rfl ?_
            refine q_48 (mj_ev_mono _) [_] rfl rfl rfl rfl rfl ?_
            refine s_244 hn10 ha0 hSa hl0 ?_
            refine q_6 rfl rfl rfl ?_
            refine q_5 rfl ?_
            refine q_3 rfl ?_
            refine q_47 (mj_ev_mono _) [_] rfl rfl rfl (by decide) rfl rfl rfl ?_
            refine s_246 hP hn1 hn10 hA hT ha0 hSa hl0 ?_
            rw [hw]
            refine q_6 rfl rfl rfl ?_
            refine q_3 rfl ?_
            refine q_3 rfl ?_
            refine q_neN (by omega) (by omega) (fun hh => ?_) (fun hh => absurd hh (by omega))
            refine q_3 rfl ?_
            refine q_3 rfl ?_
            refine q_neI (fun _ => ?_) (fun z => absurd (fun q => mI_ne (by omega) q.symm) z)
            refine q_3 rfl ?_
            refine q_0 ?_
            refine q_3 rfl ?_
            first | refine q_shl1 (by omega) ?_ | refine q_11 rfl ?_
            refine q_andnot ?_
            rw [mask_sm _ ha0]
            refine q_6 rfl rfl rfl ?_
            refine q_3 rfl ?_
            refine q_1 ?_
            refine q_eqI (fun _ => ?_) (fun z => absurd rfl z)
            refine q_23 ?_
            exact ih (sm S a0) m (a0 + 1) _ _ (by omega) (by omega) s0 hma hf
        | some b =>
          have ef : frF (okA (alk A.w A.c A.h)) A.w.n (S, m) a0 = (sm (sm S a0) b, bnd m a0 b) := by
            unfold frF
            rw [if_pos hSa]
            show (match wm (okA (alk A.w A.c A.h)) A.w.n S a0 with
              | none => (sm S a0, m)
              | some b => (sm (sm S a0) b, bnd m a0 b)) = _
            rw [hw]
          rw [ef] at hf
          obtain ⟨hb1, hb2, hb3, -⟩ := fnd_some hw
          have hSb : sm S a0 b = true := by
            unfold sm
            simp only [Bool.and_eq_true] at hb3
            rw [hb3.1.1]
            simp [show ¬ b = a0 by omega]
          have lt2 := mask_sm_lt hb2 hSb
          have s1 : ∀ p, p < a0 + 1 → sm (sm S a0) b p = false := fun p hp => by
            show (sm S a0 p && _) = false
            rw [s0 p hp]
            rfl
          by_cases hpa : a0 = a
          · subst hpa
            rw [fr_stay (by omega) (s1 a0 (by omega))] at hf
            have hf' : bnd m a0 b a0 = fr1 (okA (alk A.w A.c A.h)) A.w.n (frs A.m) a0 := hf
            have hf2 : some b = fr1 (okA (alk A.w A.c A.h)) A.w.n (frs A.m) a0 := by
              rw [← hf']
              unfold bnd
              rw [if_neg (by omega), if_pos rfl]
            refine q_3 rfl ?_
            refine q_eqN0 (by omega) (fun z => absurd z hz) (fun _ => ?_)
            refine q_3 rfl ?_
            refine q_48 (mj_ev_mono _) [_] rfl rfl rfl rfl rfl ?_
            refine s_244 hn10 ha0 hSa hl0 ?_
            refine q_6 rfl rfl rfl ?_
            refine q_5 rfl ?_
            refine q_3 rfl ?_
            refine q_47 (mj_ev_mono _) [_] rfl rfl rfl (by decide) rfl rfl rfl ?_
            refine s_246 hP hn1 hn10 hA hT ha0 hSa hl0 ?_
            rw [hw]
            refine q_6 rfl rfl rfl ?_
            refine q_3 rfl ?_
            refine q_3 rfl ?_
            refine q_neN (by omega) (by omega) (fun hh => absurd hh (by omega)) (fun hh => ?_)
            refine q_3 rfl ?_
            refine q_26 ?_
            exact fin _ (by rw [← hf2])
          · by_cases hpb : b = a
            · subst hpb
              rw [fr_stay (by omega) (show sm (sm S a0) b b = false by unfold sm; simp)] at hf
              have hf2 : some a0 = fr1 (okA (alk A.w A.c A.h)) A.w.n (frs A.m) b := by
                rw [← hf]
                show _ = bnd m a0 b b
                unfold bnd
                rw [if_pos rfl]
              refine q_3 rfl ?_
              refine q_eqN0 (by omega) (fun z => absurd z hz) (fun _ => ?_)
              refine q_3 rfl ?_
              refine q_48 (mj_ev_mono _) [_] rfl rfl rfl rfl rfl ?_
              refine s_244 hn10 ha0 hSa hl0 ?_
              refine q_6 rfl rfl rfl ?_
              refine q_5 rfl ?_
              refine q_3 rfl ?_
              refine q_47 (mj_ev_mono _) [_] rfl rfl rfl (by decide) rfl rfl rfl ?_
              refine s_246 hP hn1 hn10 hA hT ha0 hSa hl0 ?_
              rw [hw]
              refine q_6 rfl rfl rfl ?_
              refine q_3 rfl ?_
              refine q_3 rfl ?_
              refine q_neN (by omega) (by omega) (fun hh => ?_) (fun hh => absurd hh (by omega))
              refine q_3 rfl ?_
              refine q_3 rfl ?_
              refine q_neI (fun z => absurd rfl z) (fun _ => ?_)
              refine q_3 rfl ?_
              refine q_26 ?_
              exact fin _ (by rw [← hf2]; rfl)
            · refine q_3 rfl ?_
              refine q_eqN0 (by omega) (fun z => absurd z hz) (fun _ => ?_)
              refine q_3 rfl ?_
              refine q_48 (mj_ev_mono _) [_] rfl rfl rfl rfl rfl ?_
              refine s_244 hn10 ha0 hSa hl0 ?_
              refine q_6 rfl rfl rfl ?_
              refine q_5 rfl ?_
              refine q_3 rfl ?_
              refine q_47 (mj_ev_mono _) [_] rfl rfl rfl (by decide) rfl rfl rfl ?_
              refine s_246 hP hn1 hn10 hA hT ha0 hSa hl0 ?_
              rw [hw]
              refine q_6 rfl rfl rfl ?_
              refine q_3 rfl ?_
              refine q_3 rfl ?_
              refine q_neN (by omega) (by omega) (fun hh => ?_) (fun hh => absurd hh (by omega))
              refine q_3 rfl ?_
              refine q_3 rfl ?_
              refine q_neI (fun _ => ?_) (fun z => absurd (fun q => hpb ((nI_eq (by omega) (by omega)).mp q)) z)
              refine q_3 rfl ?_
              refine q_0 ?_
              refine q_3 rfl ?_
              first | refine q_shl1 (by omega) ?_ | refine q_11 rfl ?_
              refine q_andnot ?_
              rw [mask_sm _ ha0]
              refine q_6 rfl rfl rfl ?_
              refine q_3 rfl ?_
              refine q_1 ?_
              refine q_eqI (fun z => absurd z (mI_ne (by omega))) (fun _ => ?_)
              refine q_3 rfl ?_
              refine q_0 ?_
              refine q_3 rfl ?_
              refine q_shl1 (k := b) (by omega) ?_
              refine q_andnot ?_
              rw [mask_sm _ hb2]
              refine q_6 rfl rfl rfl ?_
              refine q_23 ?_
              exact ih (sm (sm S a0) b) (bnd m a0 b) (a0 + 1) _ _ (by omega) (by omega) s1 (by unfold bnd; rw [if_neg (fun e => hpb e.symm), if_neg (fun e => hpa e.symm)]; exact hma) hf
  show mj_run (mj_ev (d + 11)) k247 Q (k247 0) [some (.ref 73), some (.int (nI a)), none, none, none] [] (107, I, L, P) 0 0
  refine q_5 rfl ?_
  refine q_0 ?_
  refine q_34 rfl (by decide) ?_
  refine q_5 rfl ?_
  refine q_3 rfl ?_
  refine q_1 ?_
  refine q_ltI (fun z => absurd (Int32.lt_of_lt_of_le z (by decide)) (nI_pos (n := a) (by omega))) (fun _ => ?_)
  refine q_3 rfl ?_
  refine q_5 rfl ?_
  first | refine q_31E rfl (by decide) hn ?_ | refine q_31 rfl (by decide) ?_
  refine q_geN (by omega) (by omega) (fun hh => absurd hh (by omega)) (fun hh => ?_)
  refine q_0 ?_
  refine q_23 ?_
  refine q_0 ?_
  refine q_47 (mj_ev_mono _) [_, _] rfl rfl rfl (by decide) rfl rfl rfl ?_
  refine s_163T I0_th ?_
  first | refine q_neN0 (by omega) (fun hh => ?_) (fun hh => absurd hh (by omega)) | refine q_neI0 (fun hh => ?_) (fun hh => absurd (by omega) hh)
  refine q_5 rfl ?_
  refine q_0 ?_
  refine q_47 (mj_ev_mono _) [_] rfl rfl rfl (by decide) rfl rfl rfl ?_
  refine s_243 hP (by omega) hS0.mt hS0.rw hS0.2.2.2.2.2.2.2.2.2.1 hS0.2.2.2.2.2.2.2.2.2.2 (fun I1 L1 e1 eL1 hA hT => ?_)
  refine q_6 rfl rfl rfl ?_
  refine q_3 rfl ?_
  refine q_1 ?_
  refine q_neI (fun _ => ?_) (fun z => absurd (mI_ne (by omega)) z)
  exact L51 I1 L1 e1 eL1 hA hT _ (frs A.m) (fun _ => none) 0 _ _ (Nat.le_refl _) (by omega) (fun p hp => absurd hp (by omega)) rfl rfl
theorem s_247F {x : Int32} (hS : MS A I L) (hx : x < -(nI 1) ∨ nI A.w.n ≤ x) (k : kM Q I L P 1 (.int (nI 0))) : mj_ev (d + 12) 247 [.ref 73, .int x] (107, I, L, P) Q := by
  refine ⟨rfl, ?_⟩
  have hn := hS.i0.hn
  show mj_run (mj_ev (d + 11)) k247 Q (k247 0) [some (.ref 73), some (.int x), none, none, none] [] (107, I, L, P) 0 0
  refine q_5 rfl ?_
  refine q_0 ?_
  refine q_34 rfl (by decide) ?_
  refine q_5 rfl ?_
  refine q_3 rfl ?_
  refine q_1 ?_
  refine q_ltI (fun h1 => ?_) (fun h1 => ?_)
  · refine q_0 ?_
    refine q_0 ?_
    refine q_47 (mj_ev_mono _) [_, _] rfl rfl rfl (by decide) rfl rfl rfl ?_
    refine s_163F I0_th (by omega) (by omega) ?_
    first | refine q_neN0 (by omega) (fun hh => absurd hh (by omega)) (fun hh => ?_) | refine q_neI0 (fun hh => absurd hh (by omega)) (fun hh => ?_)
    refine q_0 ?_
    refine q_26 ?_
    exact k.bad
  · refine q_3 rfl ?_
    refine q_5 rfl ?_
    first | refine q_31E rfl (by decide) hn ?_ | refine q_31 rfl (by decide) ?_
    refine q_geI (fun h2 => ?_) (fun h2 => absurd (hx.resolve_left h1) h2)
    refine q_0 ?_
    refine q_0 ?_
    refine q_47 (mj_ev_mono _) [_, _] rfl rfl rfl (by decide) rfl rfl rfl ?_
    refine s_163F I0_th (by omega) (by omega) ?_
    first | refine q_neN0 (by omega) (fun hh => absurd hh (by omega)) (fun hh => ?_) | refine q_neI0 (fun hh => absurd hh (by omega)) (fun hh => ?_)
    refine q_0 ?_
    refine q_26 ?_
    exact k.bad
theorem s_248 (hP : PS t P) (hS : MS A I L) (k : ∀ I' L', Eqf FM I I' → EqL FL L L' → I' 73 0 = nI 0 → Q (.inl (some (.long (lN (hT (wtA (alk A.w A.c A.h)) (okA (alk A.w A.c A.h)) A.w.n (frs A.m)))))) (107, I', L', P)) : mj_ev (d + 12) 248 [.ref 73] (107, I, L, P) Q := by
  refine ⟨rfl, ?_⟩
  have hS0 := hS.i0
  have hn10 := hS.n10
  have ms := mask_lt10 (frs A.m) hn10
  show mj_run (mj_ev (d + 11)) k248 Q (k248 0) [some (.ref 73)] [] (107, I, L, P) 0 0
  refine q_5 rfl ?_
  refine q_0 ?_
  refine q_34 rfl (by decide) ?_
  refine q_5 rfl ?_
  refine q_33 rfl (by decide) (hP _ _ _ rfl) ?_
  refine q_5 rfl ?_
  refine q_0 ?_
  refine q_47 (mj_ev_mono _) [_] rfl rfl rfl (by decide) rfl rfl rfl ?_
  refine s_243 hP (by omega) hS0.mt hS0.rw hS0.2.2.2.2.2.2.2.2.2.1 hS0.2.2.2.2.2.2.2.2.2.2 (fun I1 L1 e1 eL1 hA hT => ?_)
  have v1 := (hT (frs A.m) (maskF_lt _ _)).2
  refine q_39E _ rfl (by decide) rfl (by show _ < 1024; omega) (by decide) v1 ?_
  refine q_28 ?_
  exact k I1 L1 (I0_fm.tr (FW_fm e1)) (FWL_fl eL1) (e1 73 0 rfl)
def sCol (A : AS) (x : Nat) : Nat := if x = 0 then 0 else hT (fun _ _ => 1) (okA (alk A.w (fun _ => 0) A.h)) A.w.n (frs A.m)
def FC (c j : Nat) : Bool := FW c j || frr 33 c j
theorem FC_fm {I I' : mj_I} (e : Eqf FC I I') : Eqf FM I I' := e.mono (fun c j q => by
  have h1 : FW c j = true → FM c j = true := fun z => by
    cases hq : FM c j with
    | true => rfl
    | false =>
      have := FW_fm (I := fun _ _ => 0) (I' := fun a b => if FW a b then 1 else 0) (fun a b z => by simp [z]) c j hq
      simp [z] at this
  have h2 : frr 33 c j = true → FM c j = true := fun z => by
    cases hq : FM c j with
    | true => rfl
    | false =>
      have := FM_33 (I := fun _ _ => 0) (I' := fun a b => if frr 33 a b then 1 else 0) (fun a b z => by simp [z]) c j hq
      simp [z] at this
  unfold FC
  rw [Bool.or_eq_false_iff]
  constructor
  · cases hz : FW c j with
    | false => rfl
    | true => rw [h1 hz] at q; cases q
  · cases hz : frr 33 c j with
    | false => rfl
    | true => rw [h2 hz] at q; cases q)
theorem FC_w {I I' : mj_I} (e : Eqf FW I I') : Eqf FC I I' := e.mono (fun c j q => (Bool.or_eq_false_iff.mp q).1)
theorem FC_r {I I' : mj_I} (e : Eqf (frr 33) I I') : Eqf FC I I' := e.mono (fun c j q => (Bool.or_eq_false_iff.mp q).2)
theorem s_249 {x : Nat} (hP : PS t P) (hS : MS A I L) (hx : x ≤ 1) (k : kM Q I L P 0 (.int (nI (sCol A x)))) : mj_ev (d + 12) 249 [.ref 73, .int (nI x)] (107, I, L, P) Q := by
  refine ⟨rfl, ?_⟩
  have hS0 := hS.i0
  have hn10 := hS.n10
  have tW : ∀ {I1 : mj_I}, Eqf FC (I0 I) I1 → MT A.w I1 := fun e => hS0.mt.fr e (fun _ => ⟨rfl, rfl, rfl, rfl, rfl, rfl, rfl, rfl⟩)
  have tR : ∀ {I1 : mj_I}, Eqf FC (I0 I) I1 → RW A.w.n 0 A.c A.h A.m I1 := fun e => hS0.rw.fr e (fun j _ h2 => by show (FW 89 j || frr 33 89 j) = false; rw [frr_lo (by omega)]; rfl)
  have ms := mask_lt10 (frs A.m) hn10
  have bT := hT1_le (al := alk A.w (fun _ => 0) A.h) (frs A.m) hn10
  have L23 : ∀ i, i ≤ 10 → ∀ I' L' x5, Eqf FC (I0 I) I' → EqL FWL L L' → mj_run (mj_ev (d + 11)) k249 Q (k249 23) [some (.ref 73), some (.int (nI x)), some (.int (nI 0)), some (.int (if i = 0 then -(nI 1) else nI (hT (fun _ _ => 1) (okA (alk A.w (fun _ => 0) A.h)) A.w.n (frs A.m)))), some (.int (nI i)), x5] [] (107, I', L', P) 0 0 := by
    refine loop_up ?_ (fun i hi ih => ?_)
    · intro I' L' x5 e' eL
      rw [if_neg (by decide)]
      obtain rfl | rfl : x = 0 ∨ x = 1 := by omega
      · refine q_3 rfl ?_
        refine q_0 ?_
        refine q_geN (by omega) (by omega) (fun hh => ?_) (fun hh => absurd hh (by omega))
        refine q_3 rfl ?_
        first | refine q_neN0 (by omega) (fun hh => absurd hh (by omega)) (fun hh => ?_) | refine q_neI0 (fun hh => absurd hh (by omega)) (fun hh => ?_)
        refine q_3 rfl ?_
        refine q_23 ?_
        refine q_26 ?_
        exact k I' L' (I0_fm.tr (FC_fm e')) (FWL_fl eL) (e' 73 0 rfl)
      · refine q_3 rfl ?_
        refine q_0 ?_
        refine q_geN (by omega) (by omega) (fun hh => ?_) (fun hh => absurd hh (by omega))
        refine q_3 rfl ?_
        first | refine q_neN0 (by omega) (fun hh => ?_) (fun hh => absurd hh (by omega)) | refine q_neI0 (fun hh => ?_) (fun hh => absurd (by omega) hh)
        refine q_3 rfl ?_
        refine q_26 ?_
        exact k I' L' (I0_fm.tr (FC_fm e')) (FWL_fl eL) (e' 73 0 rfl)
    · intro I' L' x5 e' eL
      rw [if_neg (by omega)] at ih
      have L37 : ∀ p, p ≤ A.w.n → ∀ I2, Eqf FC (I0 I) I2 → RW A.w.n 33 (fun q => if q < p then i else A.c q) A.h A.m I2 → mj_run (mj_ev (d + 11)) k249 Q (k249 37) [some (.ref 73), some (.int (nI x)), some (.int (nI 0)), some (.int (if i = 0 then -(nI 1) else nI (hT (fun _ _ => 1) (okA (alk A.w (fun _ => 0) A.h)) A.w.n (frs A.m)))), some (.int (nI i)), some (.int (nI p))] [] (107, I2, L', P) 0 0 := by
        refine loop_up ?_ (fun p hp ih2 => ?_)
        · intro I2 e2 hR2
          have hn := (tW e2).hn
          have hR3 : RW A.w.n 33 (fun _ => i) A.h A.m I2 := hR2.cg (fun q hq => by show i = if q < A.w.n then i else A.c q; rw [if_pos hq]) (fun _ _ => rfl) rfl
          have j94 : I2 94 0 = nI 0 := (e2 94 0 rfl).trans hS0.2.2.2.2.2.2.2.2.2.1
          have j95 : L' 95 0 = 0 := (eL 95 0 rfl).trans hS0.2.2.2.2.2.2.2.2.2.2
          by_cases h0 : i = 0
          · subst h0
            rw [if_pos rfl]
            refine q_3 rfl ?_
            refine q_5 rfl ?_
            first | refine q_31E rfl (by decide) hn ?_ | refine q_31 rfl (by decide) ?_
            refine q_geN (by omega) (by omega) (fun hh => ?_) (fun hh => absurd hh (by omega))
            refine q_5 rfl ?_
            refine q_33 rfl (by decide) (hP _ _ _ rfl) ?_
            refine q_5 rfl ?_
            refine q_0 ?_
            refine q_47 (mj_ev_mono _) [_] rfl rfl rfl (by decide) rfl rfl rfl ?_
            refine s_243 hP (by omega) (tW e2) hR3 j94 j95 (fun I3 L3 e3 eL3 hA hT => ?_)
            rw [alk_one] at hT
            have v1 := (hT (frs A.m) (maskF_lt _ _)).1
            first | refine q_38E _ rfl (by decide) rfl (by show _ < 1024; omega) (by decide) (v1) ?_ | refine q_38 _ rfl (by decide) rfl (by show _ < 1024; omega) (by decide) ?_
            refine q_6 rfl rfl rfl ?_
            refine q_3 rfl ?_
            refine q_3 rfl ?_
            refine q_gtI (fun _ => ?_) (fun z => absurd (Int32.lt_of_lt_of_le (by decide) (nI_pos' (by omega))) z)
            refine q_3 rfl ?_
            refine q_6 rfl rfl rfl ?_
            refine q_3 rfl ?_
            refine q_6 rfl rfl rfl ?_
            first | refine q_inc rfl rfl rfl ?_ | refine q_9 rfl rfl rfl ?_
            refine q_23 ?_
            exact ih I3 L3 _ (e2.tr (FC_w e3)) (eL.tr eL3)
          · rw [if_neg h0]
            refine q_3 rfl ?_
            refine q_5 rfl ?_
            first | refine q_31E rfl (by decide) hn ?_ | refine q_31 rfl (by decide) ?_
            refine q_geN (by omega) (by omega) (fun hh => ?_) (fun hh => absurd hh (by omega))
            refine q_5 rfl ?_
            refine q_33 rfl (by decide) (hP _ _ _ rfl) ?_
            refine q_5 rfl ?_
            refine q_0 ?_
            refine q_47 (mj_ev_mono _) [_] rfl rfl rfl (by decide) rfl rfl rfl ?_
            refine s_243 hP (by omega) (tW e2) hR3 j94 j95 (fun I3 L3 e3 eL3 hA hT => ?_)
            rw [alk_one] at hT
            have v1 := (hT (frs A.m) (maskF_lt _ _)).1
            first | refine q_38E _ rfl (by decide) rfl (by show _ < 1024; omega) (by decide) (v1) ?_ | refine q_38 _ rfl (by decide) rfl (by show _ < 1024; omega) (by decide) ?_
            refine q_6 rfl rfl rfl ?_
            refine q_3 rfl ?_
            refine q_3 rfl ?_
            refine q_gtN (by omega) (by omega) (fun hh => absurd hh (by omega)) (fun hh => ?_)
            refine q_23 ?_
            first | refine q_inc rfl rfl rfl ?_ | refine q_9 rfl rfl rfl ?_
            refine q_23 ?_
            exact ih I3 L3 _ (e2.tr (FC_w e3)) (eL.tr eL3)
        · intro I2 e2 hR2
          have hn := (tW e2).hn
          refine q_3 rfl ?_
          refine q_5 rfl ?_
          first | refine q_31E rfl (by decide) hn ?_ | refine q_31 rfl (by decide) ?_
          refine q_geN (by omega) (by omega) (fun hh => absurd hh (by omega)) (fun hh => ?_)
          refine q_5 rfl ?_
          refine q_33 rfl (by decide) (hP _ _ _ rfl) ?_
          refine q_0 ?_
          refine q_3 rfl ?_
          first | refine q_add ?_ | refine q_11 rfl ?_
          refine q_3 rfl ?_
          refine q_42 _ rfl (by decide) rfl (by show _ < 66; omega) (by decide) ?_
          first | refine q_inc rfl rfl rfl ?_ | refine q_9 rfl rfl rfl ?_
          refine q_23 ?_
          exact ih2 _ (e2.up (by show (FW 89 _ || frr 33 89 _) = true; rw [frr_in (by omega) (by omega)]; rfl)) ((hR2.cs (p := p) (v := i) hp hi).cg (fun q hq => by show (if q < p + 1 then i else A.c q) = if q = p then i else if q < p then i else A.c q; by_cases e : q = p <;> by_cases e3 : q < p <;> simp [e, e3] <;> omega) (fun _ _ => rfl) rfl)
      refine q_3 rfl ?_
      refine q_0 ?_
      refine q_geN (by omega) (by omega) (fun hh => absurd hh (by omega)) (fun hh => ?_)
      refine q_5 rfl ?_
      refine q_47 (mj_ev_mono _) [] rfl rfl rfl (by decide) rfl rfl rfl ?_
      refine s_200 hP (fun I2 e2 h2 => ?_)
      refine q_0 ?_
      refine q_6 rfl rfl rfl ?_
      exact L37 0 (by omega) I2 (e'.tr (FC_r e2)) (((tR e').cp h2).cg (fun q _ => if_neg (by omega)) (fun _ _ => rfl) rfl)
  show mj_run (mj_ev (d + 11)) k249 Q (k249 0) [some (.ref 73), some (.int (nI x)), none, none, none, none] [] (107, I, L, P) 0 0
  refine q_5 rfl ?_
  refine q_0 ?_
  refine q_34 rfl (by decide) ?_
  refine q_5 rfl ?_
  refine q_3 rfl ?_
  refine q_0 ?_
  refine q_47 (mj_ev_mono _) [_, _] rfl rfl rfl (by decide) rfl rfl rfl ?_
  refine s_222T I0_th hx (by omega) ?_
  first | refine q_neN0 (by omega) (fun hh => ?_) (fun hh => absurd hh (by omega)) | refine q_neI0 (fun hh => ?_) (fun hh => absurd (by omega) hh)
  refine q_0 ?_
  refine q_6 rfl rfl rfl ?_
  refine q_1 ?_
  refine q_6 rfl rfl rfl ?_
  refine q_0 ?_
  refine q_6 rfl rfl rfl ?_
  exact L23 0 (by omega) (I0 I) L _ Eqf.rf EqL.rf
theorem s_249F {x : Int32} (hx : x < nI 0 ∨ nI 1 < x) (k : kM Q I L P 1 (.int (nI 0))) : mj_ev (d + 12) 249 [.ref 73, .int x] (107, I, L, P) Q := by
  refine ⟨rfl, ?_⟩
  show mj_run (mj_ev (d + 11)) k249 Q (k249 0) [some (.ref 73), some (.int x), none, none, none, none] [] (107, I, L, P) 0 0
  refine q_5 rfl ?_
  refine q_0 ?_
  refine q_34 rfl (by decide) ?_
  refine q_5 rfl ?_
  refine q_3 rfl ?_
  refine q_0 ?_
  refine q_47 (mj_ev_mono _) [_, _] rfl rfl rfl (by decide) rfl rfl rfl ?_
  refine s_222F I0_th hx ?_
  first | refine q_neN0 (by omega) (fun hh => absurd hh (by omega)) (fun hh => ?_) | refine q_neI0 (fun hh => absurd hh (by omega)) (fun hh => ?_)
  refine q_0 ?_
  refine q_26 ?_
  exact k.bad
end M
