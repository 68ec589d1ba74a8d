/-! the class: its calls that only tell (1) -/
section C
variable {I : mj_I} {L : mj_L} {P : mj_P} {Q : mj_Q} {d n r t a b : Nat} {A : AS} {w : WT} {c h : Nat → Nat} {m : MM} {al : Nat → Nat → Int32}
theorem c_70 (hP : PS t P) (hS : CS A I) (k : ∀ I', Eqf (frm [13, 15, 49, 56, 57] [(48, 4), (55, 1)]) I I' → CS A I' → TI A.w A.c A.h I' → GV A.w A.c A.h 1 I' → Q (.inl none) (107, I', L, P)) : mj_ev (d + 5) 70 [.ref 55] (107, I, L, P) Q := by
  refine ⟨rfl, ?_⟩
  have hSk := hS
  obtain ⟨hB, ⟨k0, hk0, h48, hG⟩, hK, hU, hZ, hD⟩ := hS
  have hn10 := hB.n10
  show mj_run (mj_ev (d + 4)) k70 Q (k70 0) [some (.ref 55), none, none, none, none] [] (107, I, L, P) 0 0
  rcases hU with hU | ⟨hU, ⟨k2, k21, k28, hk2⟩, hT1, hT2⟩
  · have L18 : ∀ I1 k1, k1 ≤ 8 → 1 ≤ k1 → Eqf (frm [13, 15, 49] [(48, 4)]) I I1 → I1 48 4 = nI k1 → GV A.w A.c A.h k1 I1 → ∀ p, p ≤ A.w.n → ∀ I' x2 x3 x4, Eqf (frm [13, 15, 56, 57] []) I1 I' → (∀ x, x < p → I' 56 x = nI (maskF (my A.w A.c A.h x) A.w.n)) → (∀ x y, x < p → y < A.w.n → x ≠ y → I' 57 (10 * x + y) = lik A.w A.c A.h x y) → mj_run (mj_ev (d + 4)) k70 Q (k70 18) [some (.ref 55), some (.int (nI p)), x2, x3, x4] [] (107, I', L, P) 0 0 := by
      intro I1 k1 g1 g2 e1 j48 hG1
      have tW : ∀ {I' : mj_I}, Eqf (frm [13, 15, 56, 57] []) I1 I' → CT A.w I' := fun e => (hB.ct.f49 e1).fr e ⟨rfl, rfl, rfl, rfl, rfl, rfl⟩ (fun _ => rfl) (fun _ _ => ⟨rfl, rfl, rfl, rfl⟩)
      have tR : ∀ {I' : mj_I}, Eqf (frm [13, 15, 56, 57] []) I1 I' → CW A.w.n 32 33 34 A.c A.h A.m I' := fun e => (hB.cw.f49 e1).fr (funext fun j => e 32 j rfl) (funext fun j => e 33 j rfl) (funext fun j => e 34 j rfl)
      refine loop_up ?_ (fun p hp ih => ?_)
      · intro I' x2 x3 x4 e' z1 z2
        have hn := (tW e').hn
        have E : Eqf (frm [13, 15, 49, 56, 57] [(48, 4), (55, 1)]) I (mj_upI I' 55 1 (nI 1)) := ((e1.to rfl rfl).tr (e'.to rfl rfl)).up rfl
        refine q_3 rfl ?_
        refine q_5 rfl ?_
        refine q_33 rfl (by decide) (hP _ _ _ rfl) ?_
        first | refine q_31E rfl (by decide) hn ?_ | refine q_31 rfl (by decide) ?_
        refine q_geN (by omega) (by omega) (fun hh => ?_) (fun hh => absurd hh (by omega))
        refine q_5 rfl ?_
        refine q_0 ?_
        refine q_35 rfl (by decide) (by first | exact Or.inl rfl | exact Or.inr rfl | assumption) ?_
        refine q_25 ?_
        refine k _ E ⟨?_, ⟨k1, g1, (e' 48 4 rfl).trans j48, fun j hj a b ha hb hab => (e' 49 _ rfl).trans (hG1 j hj a b ha hb hab)⟩, ?_, Or.inr ⟨upI_s, ⟨k1, g2, g1, (e' 48 4 rfl).trans j48⟩, fun x hx => z1 x hx, fun x y hx hy hxy => z2 x y hx hy hxy⟩, ?_, ?_⟩ ⟨fun x hx => z1 x hx, fun x y hx hy hxy => z2 x y hx hy hxy⟩ (fun j hj a b ha hb hab => (e' 49 _ rfl).trans (hG1 j (by omega) a b ha hb hab))
        · exact hB.fm E (by intro c hc j; simp only [List.mem_cons, List.not_mem_nil, or_false] at hc; rcases hc with rfl | rfl | rfl | rfl | rfl <;> rfl) (by intro q hq; simp only [List.mem_cons, List.not_mem_nil, or_false] at hq; rcases hq with rfl | rfl <;> rfl)
        · exact hK.fr (E 51 4 rfl) (funext fun j => E 52 j rfl)
        · exact hZ.fr (E 60 1 rfl) (E 60 2 rfl) (funext fun j => E 62 j rfl) (funext fun j => E 63 j rfl)
        · exact hD.fr (fun j => E 65 j rfl) (funext fun j => E 66 j rfl)
      · intro I' x2 x3 x4 e' z1 z2
        have L38 : ∀ q, q ≤ A.w.n → ∀ I' x3 x4, Eqf (frm [13, 15, 56, 57] []) I1 I' → (∀ x, x < p → I' 56 x = nI (maskF (my A.w A.c A.h x) A.w.n)) → I' 56 p = nI (maskF (my A.w A.c A.h p) q) → (∀ x y, x < p → y < A.w.n → x ≠ y → I' 57 (10 * x + y) = lik A.w A.c A.h x y) → (∀ y, y < q → p ≠ y → I' 57 (10 * p + y) = lik A.w A.c A.h p y) → mj_run (mj_ev (d + 4)) k70 Q (k70 38) [some (.ref 55), some (.int (nI p)), some (.int (nI q)), x3, x4] [] (107, I', L, P) 0 0 := by
          refine loop_up ?_ (fun q hq ih2 => ?_)
          · intro I' x3 x4 e' z1 z1b z2 z2b
            have hn := (tW e').hn
            refine q_3 rfl ?_
            refine q_5 rfl ?_
            refine q_33 rfl (by decide) (hP _ _ _ rfl) ?_
            first | refine q_31E rfl (by decide) hn ?_ | refine q_31 rfl (by decide) ?_
            refine q_geN (by omega) (by omega) (fun hh => ?_) (fun hh => absurd hh (by omega))
            first | refine q_inc rfl rfl rfl ?_ | refine q_9 rfl rfl rfl ?_
            refine q_23 ?_
            refine ih I' _ _ _ e' (fun x hx => ?_) (fun x y hx hy hxy => ?_)
            · by_cases e : x = p
              · rw [e]; exact z1b
              · exact z1 x (by omega)
            · by_cases e : x = p
              · subst e; exact z2b y hy hxy
              · exact z2 x y (by omega) hy hxy
          · intro I' x3 x4 e' z1 z1b z2 z2b
            have hn := (tW e').hn
            by_cases hqp : q = p
            · rw [maskF_no (my A.w A.c A.h p) (show my A.w A.c A.h p q = false by unfold my; simp [hqp])] at ih2
              refine q_3 rfl ?_
              refine q_5 rfl ?_
              refine q_33 rfl (by decide) (hP _ _ _ rfl) ?_
              first | refine q_31E rfl (by decide) hn ?_ | refine q_31 rfl (by decide) ?_
              refine q_geN (by omega) (by omega) (fun hh => absurd hh (by omega)) (fun hh => ?_)
              refine q_3 rfl ?_
              refine q_3 rfl ?_
              refine q_eqN (by omega) (by omega) (fun hh => ?_) (fun hh => absurd hh (by omega))
              first | refine q_inc rfl rfl rfl ?_ | refine q_9 rfl rfl rfl ?_
              refine q_23 ?_
              exact ih2 I' _ _ e' z1 z1b z2 (fun y hy hpy => z2b y (by omega) hpy)
            · have g0 : I' 49 (100 * 0 + 10 * p + q) = alk A.w A.c A.h p q := (e' 49 _ rfl).trans (hG1 0 (by omega) p q hp hq (fun e => hqp e.symm))
              have r2 := (tR e').hol hq
              have fin : ∀ I2 v, Eqf (frm [13, 15] []) (mj_upI I' 56 p (nI v)) I2 → v = maskF (my A.w A.c A.h p) (q + 1) → ∀ y3 y4, mj_run (mj_ev (d + 4)) k70 Q (k70 38) [some (.ref 55), some (.int (nI p)), some (.int (nI (q + 1))), y3, y4] [] (107, mj_upI I2 57 (10 * p + q) (lik A.w A.c A.h p q), L, P) 0 0 := by
                rintro I2 v e2 rfl y3 y4
                refine ih2 _ y3 y4 (((e'.up rfl).tr (e2.to rfl rfl)).up rfl) (fun x hx => ?_) ?_ (fun x y hx hy hxy => ?_) (fun y hy hpy => ?_)
                · rw [upI_c (by decide), e2 56 x rfl, upI_j (by omega)]
                  exact z1 x hx
                · rw [upI_c (by decide), e2 56 p rfl]
                  exact upI_s
                · rw [upI_j (by omega), e2 57 _ rfl]
                  exact z2 x y hx hy hxy
                · by_cases e : y = q
                  · subst e
                    exact upI_s
                  · rw [upI_j (by omega), e2 57 _ rfl]
                    exact z2b y (by omega) hpy
              by_cases hpos : 0 < alk A.w A.c A.h p q
              · have e3 := mask_acc1 (p := my A.w A.c A.h p) (i := q) (c := True) (by unfold my; simp [hpos]; exact fun e => hqp e.symm)
                rw [if_pos trivial] at e3
                refine q_3 rfl ?_
                refine q_5 rfl ?_
                refine q_33 rfl (by decide) (hP _ _ _ rfl) ?_
                first | refine q_31E rfl (by decide) hn ?_ | refine q_31 rfl (by decide) ?_
                refine q_geN (by omega) (by omega) (fun hh => absurd hh (by omega)) (fun hh => ?_)
                refine q_3 rfl ?_
                refine q_3 rfl ?_
                refine q_eqN (by omega) (by omega) (fun hh => absurd hh (by omega)) (fun hh => ?_)
                refine q_3 rfl ?_
                refine q_0 ?_
                first | refine q_mul ?_ | refine q_11 rfl ?_
                refine q_3 rfl ?_
                first | refine q_add ?_ | refine q_11 rfl ?_
                refine q_6 rfl rfl rfl ?_
                refine q_5 rfl ?_
                refine q_33 rfl (by decide) (hP _ _ _ rfl) ?_
                refine q_33 rfl (by decide) (hP _ _ _ rfl) ?_
                refine q_3 rfl ?_
                refine q_38E (100 * 0 + 10 * p + q) rfl (by decide) (congrArg nI (by omega)) (by show _ < 800; omega) (by decide) g0 ?_
                refine q_6 rfl rfl rfl ?_
                refine q_5 rfl ?_
                refine q_33 rfl (by decide) (hP _ _ _ rfl) ?_
                refine q_3 rfl ?_
                refine q_20 rfl rfl ?_
                first | refine q_38E _ rfl (by decide) rfl (by show _ < 10; omega) (by decide) (z1b) ?_ | refine q_38 _ rfl (by decide) rfl (by show _ < 10; omega) (by decide) ?_
                refine q_3 rfl ?_
                refine q_leI0 (fun z => absurd hpos (Int32.not_lt.mpr z)) (fun _ => ?_)
                refine q_0 ?_
                refine q_3 rfl ?_
                first | refine q_shl1 (by omega) ?_ | refine q_11 rfl ?_
                refine q_23 ?_
                first | refine q_orN ?_ | refine q_11 rfl ?_
                refine q_42 _ rfl (by decide) rfl (by show _ < 10; omega) (by decide) ?_
                refine q_5 rfl ?_
                refine q_33 rfl (by decide) (hP _ _ _ rfl) ?_
                refine q_3 rfl ?_
                refine q_5 rfl ?_
                refine q_33 rfl (by decide) (hP _ _ _ rfl) ?_
                refine q_3 rfl ?_
                refine q_3 rfl ?_
                refine q_3 rfl ?_
                refine q_5 rfl ?_
                refine q_33 rfl (by decide) (hP _ _ _ rfl) ?_
                refine q_33 rfl (by decide) (hP _ _ _ rfl) ?_
                refine q_3 rfl ?_
                first | refine q_38E _ rfl (by decide) rfl (by show _ < 10; omega) (by decide) (r2) ?_ | refine q_38 _ rfl (by decide) rfl (by show _ < 10; omega) (by decide) ?_
                refine q_47 (mj_ev_mono _) [_, _, _, _] rfl rfl rfl (by decide) rfl rfl rfl ?_
                refine c_88 (w := A.w) hP hp hq ((tW e').fr (F := frm [56] []) (Eqf.rf.up rfl) ⟨rfl, rfl, rfl, rfl, rfl, rfl⟩ (fun _ => rfl) (fun _ _ => ⟨rfl, rfl, rfl, rfl⟩)) (fun I2 e2 => ?_)
                refine q_42 (10 * p + q) rfl (by decide) (congrArg nI (by omega)) (by show _ < 100; omega) (by decide) ?_
                first | refine q_inc rfl rfl rfl ?_ | refine q_9 rfl rfl rfl ?_
                refine q_23 ?_
                exact fin I2 _ e2 e3 _ _
              · have e3 : (maskF (my A.w A.c A.h p) q ||| 0) = maskF (my A.w A.c A.h p) (q + 1) := by
                  rw [Nat.or_zero]
                  exact (maskF_no (my A.w A.c A.h p) (by unfold my; simp [hpos])).symm
                refine q_3 rfl ?_
                refine q_5 rfl ?_
                refine q_33 rfl (by decide) (hP _ _ _ rfl) ?_
                first | refine q_31E rfl (by decide) hn ?_ | refine q_31 rfl (by decide) ?_
                refine q_geN (by omega) (by omega) (fun hh => absurd hh (by omega)) (fun hh => ?_)
                refine q_3 rfl ?_
                refine q_3 rfl ?_
                refine q_eqN (by omega) (by omega) (fun hh => absurd hh (by omega)) (fun hh => ?_)
                refine q_3 rfl ?_
                refine q_0 ?_
                first | refine q_mul ?_ | refine q_11 rfl ?_
                refine q_3 rfl ?_
                first | refine q_add ?_ | refine q_11 rfl ?_
                refine q_6 rfl rfl rfl ?_
                refine q_5 rfl ?_
                refine q_33 rfl (by decide) (hP _ _ _ rfl) ?_
                refine q_33 rfl (by decide) (hP _ _ _ rfl) ?_
                refine q_3 rfl ?_
                refine q_38E (100 * 0 + 10 * p + q) rfl (by decide) (congrArg nI (by omega)) (by show _ < 800; omega) (by decide) g0 ?_
                refine q_6 rfl rfl rfl ?_
                refine q_5 rfl ?_
                refine q_33 rfl (by decide) (hP _ _ _ rfl) ?_
                refine q_3 rfl ?_
                refine q_20 rfl rfl ?_
                first | refine q_38E _ rfl (by decide) rfl (by show _ < 10; omega) (by decide) (z1b) ?_ | refine q_38 _ rfl (by decide) rfl (by show _ < 10; omega) (by decide) ?_
                refine q_3 rfl ?_
                refine q_leI0 (fun _ => ?_) (fun z => absurd (Int32.not_lt.mp hpos) z)
                refine q_0 ?_
                first | refine q_orN ?_ | refine q_11 rfl ?_
                refine q_42 _ rfl (by decide) rfl (by show _ < 10; omega) (by decide) ?_
                refine q_5 rfl ?_
                refine q_33 rfl (by decide) (hP _ _ _ rfl) ?_
                refine q_3 rfl ?_
                refine q_5 rfl ?_
                refine q_33 rfl (by decide) (hP _ _ _ rfl) ?_
                refine q_3 rfl ?_
                refine q_3 rfl ?_
                refine q_3 rfl ?_
                refine q_5 rfl ?_
                refine q_33 rfl (by decide) (hP _ _ _ rfl) ?_
                refine q_33 rfl (by decide) (hP _ _ _ rfl) ?_
                refine q_3 rfl ?_
                first | refine q_38E _ rfl (by decide) rfl (by show _ < 10; omega) (by decide) (r2) ?_ | refine q_38 _ rfl (by decide) rfl (by show _ < 10; omega) (by decide) ?_
                refine q_47 (mj_ev_mono _) [_, _, _, _] rfl rfl rfl (by decide) rfl rfl rfl ?_
                refine c_88 (w := A.w) hP hp hq ((tW e').fr (F := frm [56] []) (Eqf.rf.up rfl) ⟨rfl, rfl, rfl, rfl, rfl, rfl⟩ (fun _ => rfl) (fun _ _ => ⟨rfl, rfl, rfl, rfl⟩)) (fun I2 e2 => ?_)
                refine q_42 (10 * p + q) rfl (by decide) (congrArg nI (by omega)) (by show _ < 100; omega) (by decide) ?_
                first | refine q_inc rfl rfl rfl ?_ | refine q_9 rfl rfl rfl ?_
                refine q_23 ?_
                exact fin I2 _ e2 e3 _ _
        have hn := (tW e').hn
        refine q_3 rfl ?_
        refine q_5 rfl ?_
        refine q_33 rfl (by decide) (hP _ _ _ rfl) ?_
        first | refine q_31E rfl (by decide) hn ?_ | refine q_31 rfl (by decide) ?_
        refine q_geN (by omega) (by omega) (fun hh => absurd hh (by omega)) (fun hh => ?_)
        refine q_5 rfl ?_
        refine q_33 rfl (by decide) (hP _ _ _ rfl) ?_
        refine q_3 rfl ?_
        refine q_0 ?_
        refine q_42 _ rfl (by decide) rfl (by show _ < 10; omega) (by decide) ?_
        refine q_0 ?_
        refine q_6 rfl rfl rfl ?_
        exact L38 0 (by omega) _ _ _ (e'.up rfl) (fun x hx => by rw [upI_j (by omega)]; exact z1 x hx) upI_s z2 (fun y hy => absurd hy (by omega))
    refine q_5 rfl ?_
    first | refine q_31E rfl (by decide) hU ?_ | refine q_31 rfl (by decide) ?_
    first | refine q_eqN0 (by omega) (fun hh => ?_) (fun hh => absurd hh (by omega)) | refine q_eqI0 (fun hh => ?_) (fun hh => absurd (by omega) hh)
    refine q_5 rfl ?_
    refine q_33 rfl (by decide) (hP _ _ _ rfl) ?_
    refine q_0 ?_
    refine q_47 (mj_ev_mono _) [_] rfl rfl rfl (by decide) rfl rfl rfl ?_
    refine c_32 hP hB.ct hB.cw (by omega) hk0 h48 hG (fun I1 k1 g1 g2 g3 g4 e1 j48 hG1 => ?_)
    refine q_0 ?_
    refine q_6 rfl rfl rfl ?_
    exact L18 I1 k1 g1 (g3 (by omega)) e1 j48 hG1 0 (by omega) I1 _ _ _ Eqf.rf (fun x hx => absurd hx (by omega)) (fun x y hx => absurd hx (by omega))
  · refine q_5 rfl ?_
    first | refine q_31E rfl (by decide) hU ?_ | refine q_31 rfl (by decide) ?_
    first | refine q_eqN0 (by omega) (fun hh => absurd hh (by omega)) (fun hh => ?_) | refine q_eqI0 (fun hh => absurd hh (by omega)) (fun hh => ?_)
    refine q_25 ?_
    exact k I Eqf.rf hSk ⟨hT1, hT2⟩ (fun j hj a b ha hb hab => hG j (by have := (nI_eq (by omega) (by omega)).mp (h48.symm.trans hk2); omega) a b ha hb hab)
theorem c_154 (hP : PS t P) (hS : CS A I) (k : ∀ I', Eqf (frm [13, 15, 49, 56, 57] [(48, 4), (55, 1)]) I I' → CS A I' → TI A.w A.c A.h I' → GV A.w A.c A.h 1 I' → Q (.inl (some (.ref 55))) (107, I', L, P)) : mj_ev (d + 6) 154 [.ref 0] (107, I, L, P) Q := by
  refine ⟨rfl, ?_⟩
  show mj_run (mj_ev (d + 5)) k154 Q (k154 0) [some (.ref 0)] [] (107, I, L, P) 0 0
  refine q_5 rfl ?_
  refine q_33 rfl (by decide) (hP _ _ _ rfl) ?_
  refine q_47 (mj_ev_mono _) [] rfl rfl rfl (by decide) rfl rfl rfl ?_
  refine c_70 hP hS (fun I1 e1 hS1 hT1 hG1 => ?_)
  refine q_5 rfl ?_
  refine q_33 rfl (by decide) (hP _ _ _ rfl) ?_
  refine q_29 ?_
  exact k I1 e1 hS1 hT1 hG1
theorem kC.fm {cs : List Nat} {fs : List (Nat × Nat)} {I1 : mj_I} {v : mj_R} (k : kC Q I L P A v) (e : Eqf (frm cs fs) I I1) (hS : CS A I1) (hc : cs.all (fun c => Nat.blt c 73) = true) (hf : fs.all (fun q => Nat.blt q.1 73) = true) : Q v (107, I1, L, P) := k I1 L hS (fun c j h73 => e c j (by
  cases hq : frm cs fs c j with
  | false => rfl
  | true =>
    unfold frm at hq
    rw [Bool.or_eq_true] at hq
    rcases hq with h3 | h3
    · obtain ⟨q, h4, h5⟩ := List.any_eq_true.mp h3
      obtain rfl := eq_of_beq h5
      have := Nat.le_of_ble_eq_true (n := c + 1) (List.all_eq_true.mp hc c h4)
      omega
    · obtain ⟨q, h4, h5⟩ := List.any_eq_true.mp h3
      rw [Bool.and_eq_true] at h5
      obtain rfl := eq_of_beq h5.1
      have := Nat.le_of_ble_eq_true (n := q.1 + 1) (List.all_eq_true.mp hf q h4)
      omega)) (fun _ _ _ => rfl)
theorem CS.f13 {I' : mj_I} (hS : CS A I) (e : Eqf (frm [13, 15] []) I I') : CS A I' := by
  obtain ⟨hB, hO, hK, hU, hZ, hD⟩ := hS
  exact ⟨hB.fm e (by intro c hc j; simp only [List.mem_cons, List.not_mem_nil, or_false] at hc; rcases hc with rfl | rfl <;> rfl) (fun q hq => by cases hq), hO.fr (e 48 4 rfl) (funext fun j => e 49 j rfl), hK.fr (e 51 4 rfl) (funext fun j => e 52 j rfl), hU.fr (e 55 1 rfl) (funext fun j => e 56 j rfl) (funext fun j => e 57 j rfl) (fun k h1 h8 hk => ⟨k, h1, h8, (e 48 4 rfl).trans hk⟩), hZ.fr (e 60 1 rfl) (e 60 2 rfl) (funext fun j => e 62 j rfl) (funext fun j => e 63 j rfl), hD.fr (fun j => e 65 j rfl) (funext fun j => e 66 j rfl)⟩

theorem c_121 (hP : PS t P) (hS : CS A I) (k : kC Q I L P A (.inl (some (.int (bI (cls A.w.n (alk A.w A.c A.h)).1))))) : mj_ev (d + 12) 121 [.ref 0] (107, I, L, P) Q := by
  refine ⟨rfl, ?_⟩
  show mj_run (mj_ev (d + 11)) k121 Q (k121 0) [some (.ref 0)] [] (107, I, L, P) 0 0
  refine q_5 rfl ?_
  refine q_47 (mj_ev_mono _) [] rfl rfl rfl (by decide) rfl rfl rfl ?_
  refine c_154 hP hS (fun I1 e1 hS1 hT1 hG1 => ?_)
  refine q_47 (mj_ev_mono _) [] rfl rfl rfl (by decide) rfl rfl rfl ?_
  refine c_76 (n := A.w.n) (al := alk A.w A.c A.h) hP hS1.cb.hn hS1.cb.n10 (fun a b ha hb hab => by have := hG1 0 (by omega) a b ha hb hab; rw [Nat.mul_zero, Nat.zero_add] at this; exact this) ?_
  refine q_26 ?_
  exact k.fm e1 hS1 rfl rfl
theorem c_122 (hP : PS t P) (hS : CS A I) (k : kC Q I L P A (.inl (some (.int (nI (maskF (fun p => decide (maskF (my A.w A.c A.h p) A.w.n = 0)) A.w.n)))))) : mj_ev (d + 12) 122 [.ref 0] (107, I, L, P) Q := by
  refine ⟨rfl, ?_⟩
  show mj_run (mj_ev (d + 11)) k122 Q (k122 0) [some (.ref 0)] [] (107, I, L, P) 0 0
  refine q_5 rfl ?_
  refine q_47 (mj_ev_mono _) [] rfl rfl rfl (by decide) rfl rfl rfl ?_
  refine c_154 hP hS (fun I1 e1 hS1 hT1 hG1 => ?_)
  refine q_47 (mj_ev_mono _) [] rfl rfl rfl (by decide) rfl rfl rfl ?_
  refine c_75 hP hT1 hS1.cb.hn hS1.cb.n10 ?_
  refine q_26 ?_
  exact k.fm e1 hS1 rfl rfl
theorem c_123 (hP : PS t P) (hS : CS A I) (k : kC Q I L P A (.inl (some (.int (nI (cntF (fai A.w A.c A.h A.m) A.w.n)))))) : mj_ev (d + 12) 123 [.ref 0] (107, I, L, P) Q := by
  refine ⟨rfl, ?_⟩
  show mj_run (mj_ev (d + 11)) k123 Q (k123 0) [some (.ref 0)] [] (107, I, L, P) 0 0
  refine q_5 rfl ?_
  refine q_47 (mj_ev_mono _) [] rfl rfl rfl (by decide) rfl rfl rfl ?_
  refine c_154 hP hS (fun I1 e1 hS1 hT1 hG1 => ?_)
  refine q_47 (mj_ev_mono _) [] rfl rfl rfl (by decide) rfl rfl rfl ?_
  refine c_77 hP hT1 hS1.cb.hn hS1.cb.cw ?_
  refine q_26 ?_
  exact k.fm e1 hS1 rfl rfl
theorem c_146 (hP : PS t P) (hS : CS A I) (k : kC Q I L P A (.inl (some (.int (nI (crcS A.w.n (my A.w A.c A.h))))))) : mj_ev (d + 12) 146 [.ref 0] (107, I, L, P) Q := by
  refine ⟨rfl, ?_⟩
  show mj_run (mj_ev (d + 11)) k146 Q (k146 0) [some (.ref 0)] [] (107, I, L, P) 0 0
  refine q_5 rfl ?_
  refine q_47 (mj_ev_mono _) [] rfl rfl rfl (by decide) rfl rfl rfl ?_
  refine c_154 hP hS (fun I1 e1 hS1 hT1 hG1 => ?_)
  refine q_47 (mj_ev_mono _) [] rfl rfl rfl (by decide) rfl rfl rfl ?_
  refine c_82 hP hT1 hS1.cb.hn hS1.cb.n10 ?_
  refine q_26 ?_
  exact k.fm e1 hS1 rfl rfl
theorem CS.f58 {I' : mj_I} (hS : CS A I) (e : Eqf (frm [58] []) I I') : CS A I' := by
  obtain ⟨hB, hO, hK, hU, hZ, hD⟩ := hS
  exact ⟨hB.fm e (by intro c hc j; simp only [List.mem_cons, List.not_mem_nil, or_false] at hc; subst hc; rfl) (fun q hq => by cases hq), hO.fr (e 48 4 rfl) (funext fun j => e 49 j rfl), hK.fr (e 51 4 rfl) (funext fun j => e 52 j rfl), hU.fr (e 55 1 rfl) (funext fun j => e 56 j rfl) (funext fun j => e 57 j rfl) (fun k h1 h8 hk => ⟨k, h1, h8, (e 48 4 rfl).trans hk⟩), hZ.fr (e 60 1 rfl) (e 60 2 rfl) (funext fun j => e 62 j rfl) (funext fun j => e 63 j rfl), hD.fr (fun j => e 65 j rfl) (funext fun j => e 66 j rfl)⟩
theorem c_143 (hP : PS t P) (hS : CS A I) (k : kC Q I L P A (.inl (some (.int (mI (rngS A.w.n (rth A.w A.c A.h A.m))))))) : mj_ev (d + 12) 143 [.ref 0] (107, I, L, P) Q := by
  refine ⟨rfl, ?_⟩
  show mj_run (mj_ev (d + 11)) k143 Q (k143 0) [some (.ref 0)] [] (107, I, L, P) 0 0
  refine q_5 rfl ?_
  refine q_47 (mj_ev_mono _) [] rfl rfl rfl (by decide) rfl rfl rfl ?_
  refine c_154 hP hS (fun I1 e1 hS1 hT1 hG1 => ?_)
  refine q_47 (mj_ev_mono _) [] rfl rfl rfl (by decide) rfl rfl rfl ?_
  refine c_79 hP hT1 hS1.cb.hn hS1.cb.cw (fun I2 e2 => ?_)
  refine q_26 ?_
  exact k.fm (cs := [13, 15, 49, 56, 57, 58]) (fs := [(48, 4), (55, 1)]) ((e1.to rfl rfl).tr (e2.to rfl rfl)) (hS1.f58 e2) rfl rfl
theorem c_145 (hP : PS t P) (hS : CS A I) (ha : a < A.w.n) (hb : b < A.w.n) (k : kC Q I L P A (.inl (some (.int (mI (fnd A.w.n 0 (fun j => rch A.w.n (my A.w A.c A.h) a j b))))))) : mj_ev (d + 12) 145 [.ref 0, .int (nI a), .int (nI b)] (107, I, L, P) Q := by
  refine ⟨rfl, ?_⟩
  have hn := hS.cb.hn
  have hn10 := hS.cb.n10
  show mj_run (mj_ev (d + 11)) k145 Q (k145 0) [some (.ref 0), some (.int (nI a)), some (.int (nI b))] [] (107, I, L, P) 2 12
  refine q_5 rfl ?_
  refine q_3 rfl ?_
  refine q_47 (mj_ev_mono _) [_] rfl rfl rfl (by decide) rfl rfl rfl ?_
  first | refine c_149T hP hn hn10 ha ?_ | refine c_149T hP hn hn10 hb ?_
  refine q_5 rfl ?_
  refine q_3 rfl ?_
  refine q_47 (mj_ev_mono _) [_] rfl rfl rfl (by decide) rfl rfl rfl ?_
  first | refine c_149T hP hn hn10 ha ?_ | refine c_149T hP hn hn10 hb ?_
  refine q_5 rfl ?_
  refine q_47 (mj_ev_mono _) [] rfl rfl rfl (by decide) rfl rfl rfl ?_
  refine c_154 hP hS (fun I1 e1 hS1 hT1 hG1 => ?_)
  refine q_3 rfl ?_
  refine q_3 rfl ?_
  refine q_47 (mj_ev_mono _) [_, _] rfl rfl rfl (by decide) rfl rfl rfl ?_
  refine c_81 hP hT1 hS1.cb.hn hS1.cb.n10 ha hb ?_
  refine q_26 ?_
  exact k.fm e1 hS1 rfl rfl
theorem c_107 (hP : PS t P) (hS : CS A I) (ha : a < A.w.n) (hb : b < A.w.n) (k : kC Q I L P A (.inl (some (.int (alk A.w A.c A.h a b))))) : mj_ev (d + 12) 107 [.ref 0, .int (nI a), .int (nI b)] (107, I, L, P) Q := by
  refine ⟨rfl, ?_⟩
  have hn := hS.cb.hn
  have hn10 := hS.cb.n10
  have r1 := hS.cb.cw.hol ha
  have r2 := hS.cb.cw.hol hb
  have z1 := hS.cb.cw.h10 ha
  have z2 := hS.cb.cw.h10 hb
  show mj_run (mj_ev (d + 11)) k107 Q (k107 0) [some (.ref 0), some (.int (nI a)), some (.int (nI b))] [] (107, I, L, P) 2 12
  refine q_5 rfl ?_
  refine q_3 rfl ?_
  refine q_47 (mj_ev_mono _) [_] rfl rfl rfl (by decide) rfl rfl rfl ?_
  first | refine c_149T hP hn hn10 ha ?_ | refine c_149T hP hn hn10 hb ?_
  refine q_5 rfl ?_
  refine q_3 rfl ?_
  refine q_47 (mj_ev_mono _) [_] rfl rfl rfl (by decide) rfl rfl rfl ?_
  first | refine c_149T hP hn hn10 ha ?_ | refine c_149T hP hn hn10 hb ?_
  refine q_5 rfl ?_
  refine q_3 rfl ?_
  refine q_5 rfl ?_
  refine q_33 rfl (by decide) (hP _ _ _ rfl) ?_
  refine q_33 rfl (by decide) (hP _ _ _ rfl) ?_
  refine q_3 rfl ?_
  first | refine q_38E _ rfl (by decide) rfl (by show _ < 10; omega) (by decide) (r1) ?_ | refine q_38E _ rfl (by decide) rfl (by show _ < 10; omega) (by decide) (r2) ?_ | refine q_38 _ rfl (by decide) rfl (by show _ < 10; omega) (by decide) ?_
  refine q_3 rfl ?_
  refine q_5 rfl ?_
  refine q_33 rfl (by decide) (hP _ _ _ rfl) ?_
  refine q_33 rfl (by decide) (hP _ _ _ rfl) ?_
  refine q_3 rfl ?_
  first | refine q_38E _ rfl (by decide) rfl (by show _ < 10; omega) (by decide) (r1) ?_ | refine q_38E _ rfl (by decide) rfl (by show _ < 10; omega) (by decide) (r2) ?_ | refine q_38 _ rfl (by decide) rfl (by show _ < 10; omega) (by decide) ?_
  refine q_47 (mj_ev_mono _) [_, _, _, _] rfl rfl rfl (by decide) rfl rfl rfl ?_
  refine c_156 hP hS.cb.ct hS.cb.cw ha hb (by omega) (by omega) (fun I1 e1 => ?_)
  refine q_26 ?_
  exact k.fm e1 (hS.f13 e1) rfl rfl
theorem c_108 (hP : PS t P) (hS : CS A I) (ha : a < A.w.n) (hb : b < A.w.n) (k : kC Q I L P A (.inl (some (.int (lik A.w A.c A.h a b))))) : mj_ev (d + 12) 108 [.ref 0, .int (nI a), .int (nI b)] (107, I, L, P) Q := by
  refine ⟨rfl, ?_⟩
  have hn := hS.cb.hn
  have hn10 := hS.cb.n10
  have r1 := hS.cb.cw.hol ha
  have r2 := hS.cb.cw.hol hb
  have z1 := hS.cb.cw.h10 ha
  have z2 := hS.cb.cw.h10 hb
  show mj_run (mj_ev (d + 11)) k108 Q (k108 0) [some (.ref 0), some (.int (nI a)), some (.int (nI b)), none] [] (107, I, L, P) 2 12
  refine q_5 rfl ?_
  refine q_3 rfl ?_
  refine q_47 (mj_ev_mono _) [_] rfl rfl rfl (by decide) rfl rfl rfl ?_
  first | refine c_149T hP hn hn10 ha ?_ | refine c_149T hP hn hn10 hb ?_
  refine q_5 rfl ?_
  refine q_3 rfl ?_
  refine q_47 (mj_ev_mono _) [_] rfl rfl rfl (by decide) rfl rfl rfl ?_
  first | refine c_149T hP hn hn10 ha ?_ | refine c_149T hP hn hn10 hb ?_
  refine q_5 rfl ?_
  refine q_3 rfl ?_
  refine q_5 rfl ?_
  refine q_33 rfl (by decide) (hP _ _ _ rfl) ?_
  refine q_33 rfl (by decide) (hP _ _ _ rfl) ?_
  refine q_3 rfl ?_
  first | refine q_38E _ rfl (by decide) rfl (by show _ < 10; omega) (by decide) (r1) ?_ | refine q_38E _ rfl (by decide) rfl (by show _ < 10; omega) (by decide) (r2) ?_ | refine q_38E _ rfl (by decide) rfl (by show _ < 10; omega) (by decide) (r3) ?_ | refine q_38 _ rfl (by decide) rfl (by show _ < 10; omega) (by decide) ?_
  refine q_3 rfl ?_
  refine q_5 rfl ?_
  refine q_33 rfl (by decide) (hP _ _ _ rfl) ?_
  refine q_33 rfl (by decide) (hP _ _ _ rfl) ?_
  refine q_3 rfl ?_
  first | refine q_38E _ rfl (by decide) rfl (by show _ < 10; omega) (by decide) (r1) ?_ | refine q_38E _ rfl (by decide) rfl (by show _ < 10; omega) (by decide) (r2) ?_ | refine q_38E _ rfl (by decide) rfl (by show _ < 10; omega) (by decide) (r3) ?_ | refine q_38 _ rfl (by decide) rfl (by show _ < 10; omega) (by decide) ?_
  refine q_47 (mj_ev_mono _) [_, _, _, _] rfl rfl rfl (by decide) rfl rfl rfl ?_
  refine c_156 hP hS.cb.ct hS.cb.cw ha hb (by omega) (by omega) (fun I1 e1 => ?_)
  have r3 := (hS.f13 e1).cb.cw.hol hb
  refine q_6 rfl rfl rfl ?_
  refine q_5 rfl ?_
  refine q_33 rfl (by decide) (hP _ _ _ rfl) ?_
  refine q_3 rfl ?_
  refine q_3 rfl ?_
  refine q_3 rfl ?_
  refine q_5 rfl ?_
  refine q_33 rfl (by decide) (hP _ _ _ rfl) ?_
  refine q_33 rfl (by decide) (hP _ _ _ rfl) ?_
  refine q_3 rfl ?_
  first | refine q_38E _ rfl (by decide) rfl (by show _ < 10; omega) (by decide) (r1) ?_ | refine q_38E _ rfl (by decide) rfl (by show _ < 10; omega) (by decide) (r2) ?_ | refine q_38E _ rfl (by decide) rfl (by show _ < 10; omega) (by decide) (r3) ?_ | refine q_38 _ rfl (by decide) rfl (by show _ < 10; omega) (by decide) ?_
  refine q_47 (mj_ev_mono _) [_, _, _, _] rfl rfl rfl (by decide) rfl rfl rfl ?_
  refine c_88 (w := A.w) hP ha hb (hS.f13 e1).cb.ct (fun I2 e2 => ?_)
  refine q_26 ?_
  exact k.fm (e1.tr e2) ((hS.f13 e1).f13 e2) rfl rfl
theorem c_115 {N : Nat} (hP : PS t P) (hS : CS A I) (ha : a < A.w.n) (hN : N ≤ 30) (k : kC Q I L P A (.inl (some (.int (mI ((many A.w A.c (A.h, A.m) N).2 a)))))) : mj_ev (d + 12) 115 [.ref 0, .int (nI a), .int (nI N)] (107, I, L, P) Q := by
  refine ⟨rfl, ?_⟩
  have hn := hS.cb.hn
  have hn10 := hS.cb.n10
  have hh : ∀ p, p < A.w.n → A.h p < 10 := fun p hp => hS.cb.cw.h10 hp
  show mj_run (mj_ev (d + 11)) k115 Q (k115 0) [some (.ref 0), some (.int (nI a)), some (.int (nI N))] [] (107, I, L, P) 2 12
  refine q_5 rfl ?_
  refine q_3 rfl ?_
  refine q_47 (mj_ev_mono _) [_] rfl rfl rfl (by decide) rfl rfl rfl ?_
  refine c_149T hP hn hn10 ha ?_
  refine q_3 rfl ?_
  refine q_48 (mj_ev_mono _) [_] rfl rfl rfl rfl rfl ?_
  refine c_151T hN ?_
  refine q_5 rfl ?_
  refine q_3 rfl ?_
  refine q_47 (mj_ev_mono _) [_] rfl rfl rfl (by decide) rfl rfl rfl ?_
  refine c_153 hP hS (by omega) (fun I1 e1 hS1 g1 g2 => ?_)
  refine q_3 rfl ?_
  refine q_3 rfl ?_
  refine q_47 (mj_ev_mono _) [_, _] rfl rfl rfl (by decide) rfl rfl rfl ?_
  refine ca_16 (v := (many A.w A.c (A.h, A.m) N).2 a) hP (by omega) (by omega) (fun q => g1 q N (Nat.le_refl _) a ha) (fun q => many_9 hh (by omega) a ha) ?_
  refine q_26 ?_
  exact k.fm e1 hS1 rfl rfl
theorem c_116 (hP : PS t P) (hS : CS A I) (ha : a < A.w.n) (k : kC Q I L P A (.inl (some (.int (mI (fnd 31 0 (fun j => bm (many A.w A.c (A.h, A.m) j).2 a))))))) : mj_ev (d + 12) 116 [.ref 0, .int (nI a)] (107, I, L, P) Q := by
  refine ⟨rfl, ?_⟩
  have hn := hS.cb.hn
  have hn10 := hS.cb.n10
  have hh : ∀ p, p < A.w.n → A.h p < 10 := fun p hp => hS.cb.cw.h10 hp
  have L7 : ∀ i, i ≤ 9 → ∀ I', Eqf (frm [13, 15, 49, 52] [(48, 4), (51, 4)]) I I' → CS A I' → fnd 31 i (fun j => bm (many A.w A.c (A.h, A.m) j).2 a) = fnd 31 0 (fun j => bm (many A.w A.c (A.h, A.m) j).2 a) → mj_run (mj_ev (d + 11)) k116 Q (k116 7) [some (.ref 0), some (.int (nI a)), some (.int (nI i))] [] (107, I', L, P) 0 0 := by
    refine loop_up ?_ (fun i hi ih => ?_)
    · intro I' e' hS' hf
      rw [fnd_none.mpr (fun j h1 h2 => by unfold bm; rw [many_9 hh h1 a ha]; simp)] at hf
      refine q_3 rfl ?_
      refine q_0 ?_
      refine q_gtN (by omega) (by omega) (fun hh => ?_) (fun hh => absurd hh (by omega))
      refine q_1 ?_
      refine q_26 ?_
      rw [← hf] at k
      exact k.fm e' hS' rfl rfl
    · intro I' e' hS' hf
      have m3 : ∀ q, (many A.w A.c (A.h, A.m) i).2 a = some q → q < 2 ^ 31 := fun q hq => by
        have := (many_gm hS.cb.cw.gm i a ha q hq).1
        omega
      refine q_3 rfl ?_
      refine q_0 ?_
      refine q_gtN (by omega) (by omega) (fun hh => absurd hh (by omega)) (fun hh => ?_)
      refine q_5 rfl ?_
      refine q_3 rfl ?_
      refine q_47 (mj_ev_mono _) [_] rfl rfl rfl (by decide) rfl rfl rfl ?_
      refine c_153 hP hS' (by omega) (fun I1 e1 hS1 g1 g2 => ?_)
      refine q_3 rfl ?_
      refine q_3 rfl ?_
      refine q_47 (mj_ev_mono _) [_, _] rfl rfl rfl (by decide) rfl rfl rfl ?_
      refine ca_16 (v := (many A.w A.c (A.h, A.m) i).2 a) hP (by omega) (by omega) (fun q => g1 q i (Nat.le_refl _) a ha) (fun q => absurd q (by omega)) ?_
      refine q_1 ?_
      refine q_eqM m3 (fun h1 => ?_) (fun h1 => ?_)
      · first | refine q_inc rfl rfl rfl ?_ | refine q_9 rfl rfl rfl ?_
        refine q_23 ?_
        rw [fnd_no (by omega) (by unfold bm; simp [h1])] at hf
        exact ih I1 (e'.tr e1) hS1 hf
      · refine q_3 rfl ?_
        refine q_26 ?_
        rw [fnd_yes (by omega) (by unfold bm; simp [h1])] at hf
        rw [← hf] at k
        exact k.fm (e'.tr e1) hS1 rfl rfl
  show mj_run (mj_ev (d + 11)) k116 Q (k116 0) [some (.ref 0), some (.int (nI a)), none] [] (107, I, L, P) 1 6
  refine q_5 rfl ?_
  refine q_3 rfl ?_
  refine q_47 (mj_ev_mono _) [_] rfl rfl rfl (by decide) rfl rfl rfl ?_
  refine c_149T hP hn hn10 ha ?_
  refine q_0 ?_
  refine q_6 rfl rfl rfl ?_
  exact L7 0 (by omega) I Eqf.rf hS rfl
theorem c_117 (hP : PS t P) (hS : CS A I) (ha : a < A.w.n) (k : kC Q I L P A (.inl (some (.int (nI (9 - A.h a)))))) : mj_ev (d + 12) 117 [.ref 0, .int (nI a)] (107, I, L, P) Q := by
  refine ⟨rfl, ?_⟩
  have hn := hS.cb.hn
  have hn10 := hS.cb.n10
  have r1 := hS.cb.cw.hol ha
  have z1 := hS.cb.cw.h10 ha
  show mj_run (mj_ev (d + 11)) k117 Q (k117 0) [some (.ref 0), some (.int (nI a))] [] (107, I, L, P) 1 6
  refine q_5 rfl ?_
  refine q_3 rfl ?_
  refine q_47 (mj_ev_mono _) [_] rfl rfl rfl (by decide) rfl rfl rfl ?_
  refine c_149T hP hn hn10 ha ?_
  refine q_0 ?_
  refine q_5 rfl ?_
  refine q_33 rfl (by decide) (hP _ _ _ rfl) ?_
  refine q_33 rfl (by decide) (hP _ _ _ rfl) ?_
  refine q_3 rfl ?_
  first | refine q_38E _ rfl (by decide) rfl (by show _ < 10; omega) (by decide) (r1) ?_ | refine q_38 _ rfl (by decide) rfl (by show _ < 10; omega) (by decide) ?_
  first | refine q_sub (by omega) ?_ | refine q_11 rfl ?_
  refine q_26 ?_
  exact k.same hS rfl
theorem c_118 {N : Nat} (hP : PS t P) (hS : CS A I) (hN : N ≤ 30) (k : kC Q I L P A (.inl (some (.int (nI (bmk A.w A.c (A.h, A.m) N / 2)))))) : mj_ev (d + 12) 118 [.ref 0, .int (nI N)] (107, I, L, P) Q := by
  refine ⟨rfl, ?_⟩
  have hh : ∀ p, p < A.w.n → A.h p < 10 := fun p hp => hS.cb.cw.h10 hp
  show mj_run (mj_ev (d + 11)) k118 Q (k118 0) [some (.ref 0), some (.int (nI N))] [] (107, I, L, P) 1 6
  refine q_3 rfl ?_
  refine q_48 (mj_ev_mono _) [_] rfl rfl rfl rfl rfl ?_
  refine c_151T hN ?_
  refine q_5 rfl ?_
  refine q_3 rfl ?_
  refine q_47 (mj_ev_mono _) [_] rfl rfl rfl (by decide) rfl rfl rfl ?_
  refine c_153 hP hS (by omega) (fun I1 e1 hS1 g1 g2 => ?_)
  refine q_3 rfl ?_
  refine q_47 (mj_ev_mono _) [_] rfl rfl rfl (by decide) rfl rfl rfl ?_
  refine ca_18 (w := A.w) (c := A.c) (h := A.h) (m := A.m) hP hS1.cb.hn hS1.cb.n10 (by omega) (fun p hp q => g1 q N (Nat.le_refl _) p hp) hS1.cb.cw.gm hh ?_
  refine q_26 ?_
  exact k.fm e1 hS1 rfl rfl
theorem c_119 {N : Nat} (hP : PS t P) (hS : CS A I) (hN : N ≤ 30) (k : kC Q I L P A (.inl (some (.int (nI (maskF (fun p => !bm (many A.w A.c (A.h, A.m) N).2 p) A.w.n)))))) : mj_ev (d + 12) 119 [.ref 0, .int (nI N)] (107, I, L, P) Q := by
  refine ⟨rfl, ?_⟩
  have hh : ∀ p, p < A.w.n → A.h p < 10 := fun p hp => hS.cb.cw.h10 hp
  have e9 : maskF (fun p => !bm (many A.w A.c (A.h, A.m) N).2 p) A.w.n = maskF (fun p => decide (mB A.w A.c A.h A.m N p = none)) A.w.n := mask_congr (fun p hp => by
    rw [mB_eq hh hp]
    unfold bm
    simp)
  rw [e9] at k
  show mj_run (mj_ev (d + 11)) k119 Q (k119 0) [some (.ref 0), some (.int (nI N))] [] (107, I, L, P) 1 6
  refine q_3 rfl ?_
  refine q_48 (mj_ev_mono _) [_] rfl rfl rfl rfl rfl ?_
  refine c_151T hN ?_
  refine q_5 rfl ?_
  refine q_3 rfl ?_
  refine q_47 (mj_ev_mono _) [_] rfl rfl rfl (by decide) rfl rfl rfl ?_
  refine c_153 hP hS (by omega) (fun I1 e1 hS1 g1 g2 => ?_)
  refine q_3 rfl ?_
  refine q_47 (mj_ev_mono _) [_] rfl rfl rfl (by decide) rfl rfl rfl ?_
  refine ca_17 (w := A.w) (c := A.c) (h := A.h) (m := A.m) hP hS1.cb.hn hS1.cb.n10 (by omega) (fun p hp q => g1 q N (Nat.le_refl _) p hp) hS1.cb.cw.gm ?_
  refine q_26 ?_
  exact k.fm e1 hS1 rfl rfl
end C
