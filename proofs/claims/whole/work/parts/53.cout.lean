/-! the class: the outlook, the course -/
theorem min9 {x : Nat} (h : x < 1000) : (if nI x < nI 9 then nI x else nI 9) = nI (if x < 9 then x else 9) := by
  by_cases e : x < 9
  · rw [if_pos e, if_pos (nI_lt e (by omega))]
  · rw [if_neg e, if_neg (nI_nlt (by omega) (by omega))]
/-- given holds, for so many FAIRS ahead -/
def GV (w : WT) (c h : Nat → Nat) (k : Nat) (I : mj_I) : Prop := ∀ j, j < k → ∀ a b, a < w.n → b < w.n → a ≠ b → I 49 (100 * j + 10 * a + b) = alk w c (hu h j) a b
theorem alk_at {w : WT} {c h : Nat → Nat} {a b : Nat} : alkV w.al (w.pat a) (w.woo a) (w.siz a) (c a) (h a) (w.pat b) (w.woo b) (w.siz b) (c b) (h b) = alk w c h a b := rfl
theorem GV.f13 {w : WT} {c h : Nat → Nat} {k : Nat} {I I' : mj_I} (g : GV w c h k I) (e : I' 49 = I 49) : GV w c h k I' := fun j hj a b ha hb hab => by rw [e]; exact g j hj a b ha hb hab
section C
variable {I : mj_I} {L : mj_L} {P : mj_P} {Q : mj_Q} {d n r t a b : Nat} {A : AS} {w : WT} {c h : Nat → Nat} {m : MM} {al : Nat → Nat → Int32}
theorem c_34 {j : Nat} (hP : PS t P) (hW : CT w I) (hR : CW w.n 32 33 34 c h m I) (ha : a < w.n) (hb : b < w.n) (hab : a ≠ b) (hj : j < 8) (k : ∀ I', Eqf (frm [13, 15, 49] []) I I' → (∀ i, i ≠ 100 * j + 10 * a + b → i ≠ 100 * j + 10 * b + a → I' 49 i = I 49 i) → I' 49 (100 * j + 10 * a + b) = alk w c (hu h j) a b → I' 49 (100 * j + 10 * b + a) = alk w c (hu h j) a b → Q (.inl none) (107, I', L, P)) : mj_ev (d + 3) 34 [.ref 48, .int (nI a), .int (nI b), .int (nI j)] (107, I, L, P) Q := by
  refine ⟨rfl, ?_⟩
  have hn10 := hW.n10
  have r1 := hR.hol ha
  have r2 := hR.hol hb
  have r3 := hR.col ha
  have r4 := hR.col hb
  have z1 := hR.h10 ha
  have z2 := hR.h10 hb
  have z3 := hR.c10 ha
  have z4 := hR.c10 hb
  have u1 := hu_eq z1 j
  have u2 := hu_eq z2 j
  show mj_run (mj_ev (d + 2)) k34 Q (k34 0) [some (.ref 48), some (.int (nI a)), some (.int (nI b)), some (.int (nI j)), none, none, none] [] (107, I, L, P) 0 0
  refine q_0 ?_
  refine q_5 rfl ?_
  refine q_33 rfl (by decide) (hP _ _ _ rfl) ?_
  refine q_33 rfl (by decide) (hP _ _ _ rfl) ?_
  refine q_3 rfl ?_
  first | refine q_38E _ rfl (by decide) rfl (by show _ < 10; omega) (by decide) (r1) ?_ | refine q_38E _ rfl (by decide) rfl (by show _ < 10; omega) (by decide) (r2) ?_ | refine q_38 _ rfl (by decide) rfl (by show _ < 10; omega) (by decide) ?_
  refine q_3 rfl ?_
  first | refine q_add ?_ | refine q_11 rfl ?_
  refine q_71 rfl ?_
  rw [min9 (by omega), ← u1]
  refine q_6 rfl rfl rfl ?_
  refine q_0 ?_
  refine q_5 rfl ?_
  refine q_33 rfl (by decide) (hP _ _ _ rfl) ?_
  refine q_33 rfl (by decide) (hP _ _ _ rfl) ?_
  refine q_3 rfl ?_
  first | refine q_38E _ rfl (by decide) rfl (by show _ < 10; omega) (by decide) (r1) ?_ | refine q_38E _ rfl (by decide) rfl (by show _ < 10; omega) (by decide) (r2) ?_ | refine q_38 _ rfl (by decide) rfl (by show _ < 10; omega) (by decide) ?_
  refine q_3 rfl ?_
  first | refine q_add ?_ | refine q_11 rfl ?_
  refine q_71 rfl ?_
  rw [min9 (by omega), ← u2]
  refine q_6 rfl rfl rfl ?_
  refine q_5 rfl ?_
  refine q_33 rfl (by decide) (hP _ _ _ rfl) ?_
  refine q_3 rfl ?_
  refine q_5 rfl ?_
  refine q_33 rfl (by decide) (hP _ _ _ rfl) ?_
  refine q_33 rfl (by decide) (hP _ _ _ rfl) ?_
  refine q_3 rfl ?_
  first | refine q_38E _ rfl (by decide) rfl (by show _ < 10; omega) (by decide) (r3) ?_ | refine q_38E _ rfl (by decide) rfl (by show _ < 10; omega) (by decide) (r4) ?_ | refine q_38 _ rfl (by decide) rfl (by show _ < 10; omega) (by decide) ?_
  refine q_3 rfl ?_
  refine q_3 rfl ?_
  refine q_5 rfl ?_
  refine q_33 rfl (by decide) (hP _ _ _ rfl) ?_
  refine q_33 rfl (by decide) (hP _ _ _ rfl) ?_
  refine q_3 rfl ?_
  first | refine q_38E _ rfl (by decide) rfl (by show _ < 10; omega) (by decide) (r3) ?_ | refine q_38E _ rfl (by decide) rfl (by show _ < 10; omega) (by decide) (r4) ?_ | refine q_38 _ rfl (by decide) rfl (by show _ < 10; omega) (by decide) ?_
  refine q_3 rfl ?_
  refine q_47 (mj_ev_mono _) [_, _, _, _, _, _] rfl rfl rfl (by decide) rfl rfl rfl ?_
  refine c_87w hP hW ha hb ⟨by omega, by rw [u1]; split <;> omega⟩ ⟨by omega, by rw [u2]; split <;> omega⟩ (fun I1 e1 => ?_)
  rw [alk_at]
  refine q_6 rfl rfl rfl ?_
  refine q_5 rfl ?_
  refine q_33 rfl (by decide) (hP _ _ _ rfl) ?_
  refine q_3 rfl ?_
  refine q_0 ?_
  first | refine q_mul ?_ | refine q_11 rfl ?_
  refine q_3 rfl ?_
  refine q_0 ?_
  first | refine q_mul ?_ | refine q_11 rfl ?_
  first | refine q_add ?_ | refine q_11 rfl ?_
  refine q_3 rfl ?_
  first | refine q_add ?_ | refine q_11 rfl ?_
  refine q_3 rfl ?_
  refine q_42 (100 * j + 10 * a + b) rfl (by decide) (congrArg nI (by omega)) (by show _ < 800; omega) (by decide) ?_
  refine q_5 rfl ?_
  refine q_33 rfl (by decide) (hP _ _ _ rfl) ?_
  refine q_3 rfl ?_
  refine q_0 ?_
  first | refine q_mul ?_ | refine q_11 rfl ?_
  refine q_3 rfl ?_
  refine q_0 ?_
  first | refine q_mul ?_ | refine q_11 rfl ?_
  first | refine q_add ?_ | refine q_11 rfl ?_
  refine q_3 rfl ?_
  first | refine q_add ?_ | refine q_11 rfl ?_
  refine q_3 rfl ?_
  refine q_42 (100 * j + 10 * b + a) rfl (by decide) (congrArg nI (by omega)) (by show _ < 800; omega) (by decide) ?_
  refine q_25 ?_
  refine k _ (((e1.to rfl rfl).up rfl).up rfl) (fun i h1 h2 => ?_) ?_ upI_s
  · rw [upI_j h2, upI_j h1]
    exact e1 49 i rfl
  · rw [upI_if]
    split
    · rfl
    · exact upI_s
theorem CT.f49 {I' : mj_I} (hW : CT w I) (e : Eqf (frm [13, 15, 49] [(48, 4)]) I I') : CT w I' := hW.fr e ⟨rfl, rfl, rfl, rfl, rfl, rfl⟩ (fun _ => rfl) (fun _ _ => ⟨rfl, rfl, rfl, rfl⟩)
theorem CW.f49 {I' : mj_I} (hR : CW n 32 33 34 c h m I) (e : Eqf (frm [13, 15, 49] [(48, 4)]) I I') : CW n 32 33 34 c h m I' := hR.fr (funext fun j => e 32 j rfl) (funext fun j => e 33 j rfl) (funext fun j => e 34 j rfl)
theorem c_32 {N k0 : Nat} (hP : PS t P) (hW : CT w I) (hR : CW w.n 32 33 34 c h m I) (hN : N < 1000) (hk0 : k0 ≤ 8) (h48 : I 48 4 = nI k0) (hG : GV w c h k0 I) (k : ∀ I' k1, k1 ≤ 8 → k0 ≤ k1 → (N ≤ 8 → N ≤ k1) → (8 ≤ N → k1 = 8) → Eqf (frm [13, 15, 49] [(48, 4)]) I I' → I' 48 4 = nI k1 → GV w c h k1 I' → Q (.inl none) (107, I', L, P)) : mj_ev (d + 4) 32 [.ref 48, .int (nI N)] (107, I, L, P) Q := by
  refine ⟨rfl, ?_⟩
  have hn10 := hW.n10
  have L5 : ∀ f, f ≤ 8 → k0 ≤ f → ∀ I' x3 x4, (f = k0 ∨ f ≤ N) → Eqf (frm [13, 15, 49] [(48, 4)]) I I' → I' 48 4 = nI f → GV w c h f I' → mj_run (mj_ev (d + 3)) k32 Q (k32 5) [some (.ref 48), some (.int (nI N)), some (.int (nI f)), x3, x4] [] (107, I', L, P) 0 0 := by
    refine loop_up ?_ (fun f hf ih => ?_)
    · intro hk I' x3 x4 hor e' h48' hG'
      rcases Nat.lt_or_ge 8 N with hlt | hge
      · refine q_3 rfl ?_
        refine q_3 rfl ?_
        refine q_geN (by omega) (by omega) (fun hh => absurd hh (by omega)) (fun hh => ?_)
        refine q_3 rfl ?_
        refine q_0 ?_
        refine q_geN (by omega) (by omega) (fun hh => ?_) (fun hh => absurd hh (by omega))
        refine q_25 ?_
        exact k I' 8 (by omega) hk0 (fun _ => by omega) (fun _ => rfl) e' h48' hG'
      · refine q_3 rfl ?_
        refine q_3 rfl ?_
        refine q_geN (by omega) (by omega) (fun hh => ?_) (fun hh => absurd hh (by omega))
        refine q_25 ?_
        exact k I' 8 (by omega) hk0 (fun _ => by omega) (fun _ => rfl) e' h48' hG'
    · intro hk I' x3 x4 hor e' h48' hG'
      rcases Nat.lt_or_ge f N with hlt | hge
      · have L18 : ∀ a, a ≤ w.n → ∀ I' x4, Eqf (frm [13, 15, 49] [(48, 4)]) I I' → I' 48 4 = nI f → GV w c h f I' → (∀ x y, x < w.n → y < w.n → x ≠ y → (x < a ∨ y < a) → I' 49 (100 * f + 10 * x + y) = alk w c (hu h f) x y) → mj_run (mj_ev (d + 3)) k32 Q (k32 18) [some (.ref 48), some (.int (nI N)), some (.int (nI f)), some (.int (nI a)), x4] [] (107, I', L, P) 0 0 := by
          refine loop_up ?_ (fun a ha ih2 => ?_)
          · intro I' x4 e' h48' hG' hF
            have hn := (hW.f49 e').hn
            refine q_3 rfl ?_
            refine q_5 rfl ?_
            refine q_33 rfl (by decide) (hP _ _ _ rfl) ?_
            first | refine q_31E rfl (by decide) hn ?_ | refine q_31 rfl (by decide) ?_
            refine q_geN (by omega) (by omega) (fun hh => ?_) (fun hh => absurd hh (by omega))
            refine q_5 rfl ?_
            refine q_3 rfl ?_
            refine q_0 ?_
            first | refine q_add ?_ | refine q_11 rfl ?_
            refine q_34 rfl (by decide) ?_
            first | refine q_inc rfl rfl rfl ?_ | refine q_9 rfl rfl rfl ?_
            refine q_23 ?_
            refine ih (by omega) _ _ _ (Or.inr (by omega)) (e'.up rfl) upI_s (fun j hj x y hx hy hxy => ?_)
            by_cases e : j = f
            · subst e
              exact hF x y hx hy hxy (Or.inl hx)
            · exact hG' j (by omega) x y hx hy hxy
          · intro I' x4 e' h48' hG' hF
            have L34 : ∀ b, b ≤ w.n → a + 1 ≤ b → ∀ I', Eqf (frm [13, 15, 49] [(48, 4)]) I I' → I' 48 4 = nI f → GV w c h f I' → (∀ x y, x < w.n → y < w.n → x ≠ y → ((x < a ∨ y < a) ∨ (x = a ∧ y < b) ∨ (y = a ∧ x < b)) → I' 49 (100 * f + 10 * x + y) = alk w c (hu h f) x y) → mj_run (mj_ev (d + 3)) k32 Q (k32 34) [some (.ref 48), some (.int (nI N)), some (.int (nI f)), some (.int (nI a)), some (.int (nI b))] [] (107, I', L, P) 0 0 := by
              refine loop_up ?_ (fun b hb ih3 => ?_)
              · intro _ I' e' h48' hG' hF
                have hn := (hW.f49 e').hn
                refine q_3 rfl ?_
                refine q_5 rfl ?_
                refine q_33 rfl (by decide) (hP _ _ _ rfl) ?_
                first | refine q_31E rfl (by decide) hn ?_ | refine q_31 rfl (by decide) ?_
                refine q_geN (by omega) (by omega) (fun hh => ?_) (fun hh => absurd hh (by omega))
                first | refine q_inc rfl rfl rfl ?_ | refine q_9 rfl rfl rfl ?_
                refine q_23 ?_
                exact ih2 I' _ e' h48' hG' (fun x y hx hy hxy hq => hF x y hx hy hxy (by omega))
              · intro hab I' e' h48' hG' hF
                have hn := (hW.f49 e').hn
                refine q_3 rfl ?_
                refine q_5 rfl ?_
                refine q_33 rfl (by decide) (hP _ _ _ rfl) ?_
                first | refine q_31E rfl (by decide) hn ?_ | refine q_31 rfl (by decide) ?_
                refine q_geN (by omega) (by omega) (fun hh => absurd hh (by omega)) (fun hh => ?_)
                refine q_5 rfl ?_
                refine q_3 rfl ?_
                refine q_3 rfl ?_
                refine q_3 rfl ?_
                refine q_47 (mj_ev_mono _) [_, _, _] rfl rfl rfl (by decide) rfl rfl rfl ?_
                refine c_34 hP (hW.f49 e') (hR.f49 e') ha hb (by omega) hf (fun I2 e2 same v1 v2 => ?_)
                first | refine q_inc rfl rfl rfl ?_ | refine q_9 rfl rfl rfl ?_
                refine q_23 ?_
                refine ih3 (by omega) I2 (e'.tr (e2.to rfl rfl)) ((e2 48 4 rfl).trans h48') (fun j hj x y hx hy hxy => ?_) (fun x y hx hy hxy hq => ?_)
                · rw [same _ (by omega) (by omega)]
                  exact hG' j hj x y hx hy hxy
                · by_cases e1 : x = a ∧ y = b
                  · rw [e1.1, e1.2]
                    exact v1
                  · by_cases e3 : x = b ∧ y = a
                    · rw [e3.1, e3.2, alk_comm]
                      exact v2
                    · rw [same _ (by omega) (by omega)]
                      exact hF x y hx hy hxy (by omega)
            have hn := (hW.f49 e').hn
            refine q_3 rfl ?_
            refine q_5 rfl ?_
            refine q_33 rfl (by decide) (hP _ _ _ rfl) ?_
            first | refine q_31E rfl (by decide) hn ?_ | refine q_31 rfl (by decide) ?_
            refine q_geN (by omega) (by omega) (fun hh => absurd hh (by omega)) (fun hh => ?_)
            refine q_3 rfl ?_
            refine q_0 ?_
            first | refine q_add ?_ | refine q_11 rfl ?_
            refine q_6 rfl rfl rfl ?_
            exact L34 (a + 1) (by omega) (Nat.le_refl _) I' e' h48' hG' (fun x y hx hy hxy hq => hF x y hx hy hxy (by omega))
        refine q_3 rfl ?_
        refine q_3 rfl ?_
        refine q_geN (by omega) (by omega) (fun hh => absurd hh (by omega)) (fun hh => ?_)
        refine q_3 rfl ?_
        refine q_0 ?_
        refine q_geN (by omega) (by omega) (fun hh => absurd hh (by omega)) (fun hh => ?_)
        refine q_0 ?_
        refine q_6 rfl rfl rfl ?_
        exact L18 0 (by omega) I' _ e' h48' hG' (fun x y _ _ _ hq => absurd hq (by omega))
      · refine q_3 rfl ?_
        refine q_3 rfl ?_
        refine q_geN (by omega) (by omega) (fun hh => ?_) (fun hh => absurd hh (by omega))
        refine q_25 ?_
        exact k I' f (by omega) hk (fun _ => hge) (fun q => absurd q (by omega)) e' h48' hG'
  show mj_run (mj_ev (d + 3)) k32 Q (k32 0) [some (.ref 48), some (.int (nI N)), none, none, none] [] (107, I, L, P) 0 0
  refine q_5 rfl ?_
  first | refine q_31E rfl (by decide) h48 ?_ | refine q_31 rfl (by decide) ?_
  refine q_6 rfl rfl rfl ?_
  exact L5 k0 hk0 (Nat.le_refl _) I _ _ (Or.inl rfl) Eqf.rf h48 hG
/-- one sock is another one: the couples with it, anew -/
theorem c_33 {N k0 p : Nat} (hP : PS t P) (hW : CT w I) (hR : CW w.n 32 33 34 c h m I) (hp : p < w.n) (hN : N ≤ 8) (hk0 : k0 ≤ 8) (h48 : I 48 4 = nI k0) (k : ∀ I', Eqf (frm [13, 15, 49] []) I I' → (∀ j x y, x < w.n → y < w.n → x ≠ y → ((x ≠ p ∧ y ≠ p) ∨ ¬ (j < N ∧ j < k0)) → j < 8 → I' 49 (100 * j + 10 * x + y) = I 49 (100 * j + 10 * x + y)) → (∀ j x y, j < N → j < k0 → x < w.n → y < w.n → x ≠ y → (x = p ∨ y = p) → I' 49 (100 * j + 10 * x + y) = alk w c (hu h j) x y) → Q (.inl none) (107, I', L, P)) : mj_ev (d + 4) 33 [.ref 48, .int (nI p), .int (nI N)] (107, I, L, P) Q := by
  refine ⟨rfl, ?_⟩
  have hn10 := hW.n10
  have tW : ∀ {I' : mj_I}, Eqf (frm [13, 15, 49] []) I I' → CT w I' := fun e => hW.f49 (e.to rfl rfl)
  have tR : ∀ {I' : mj_I}, Eqf (frm [13, 15, 49] []) I I' → CW w.n 32 33 34 c h m I' := fun e => hR.f49 (e.to rfl rfl)
  have L2 : ∀ f, f ≤ N → ∀ I' x4, f ≤ k0 → Eqf (frm [13, 15, 49] []) I I' → (∀ j x y, x < w.n → y < w.n → x ≠ y → ((x ≠ p ∧ y ≠ p) ∨ f ≤ j) → j < 8 → I' 49 (100 * j + 10 * x + y) = I 49 (100 * j + 10 * x + y)) → (∀ j x y, j < f → x < w.n → y < w.n → x ≠ y → (x = p ∨ y = p) → I' 49 (100 * j + 10 * x + y) = alk w c (hu h j) x y) → mj_run (mj_ev (d + 3)) k33 Q (k33 2) [some (.ref 48), some (.int (nI p)), some (.int (nI N)), some (.int (nI f)), x4] [] (107, I', L, P) 0 0 := by
    refine loop_up ?_ (fun f hf ih => ?_)
    · intro I' x4 hfk e' z1 z2
      refine q_3 rfl ?_
      refine q_3 rfl ?_
      refine q_geN (by omega) (by omega) (fun hh => ?_) (fun hh => absurd hh (by omega))
      refine q_25 ?_
      exact k I' e' (fun j x y hx hy hxy hq hj => z1 j x y hx hy hxy (hq.imp id (fun q => by omega)) hj) (fun j x y h1 h2 hx hy hxy hq => z2 j x y (by omega) hx hy hxy hq)
    · intro I' x4 hfk e' z1 z2
      have j48 : I' 48 4 = nI k0 := (e' 48 4 rfl).trans h48
      rcases Nat.lt_or_ge f k0 with hlt | hge
      · have L18 : ∀ q, q ≤ w.n → ∀ I', Eqf (frm [13, 15, 49] []) I I' → (∀ j x y, x < w.n → y < w.n → x ≠ y → ((x ≠ p ∧ y ≠ p) ∨ f + 1 ≤ j) → j < 8 → I' 49 (100 * j + 10 * x + y) = I 49 (100 * j + 10 * x + y)) → (∀ j x y, j < f → x < w.n → y < w.n → x ≠ y → (x = p ∨ y = p) → I' 49 (100 * j + 10 * x + y) = alk w c (hu h j) x y) → (∀ y, y < w.n → y ≠ p → y < q → I' 49 (100 * f + 10 * p + y) = alk w c (hu h f) p y ∧ I' 49 (100 * f + 10 * y + p) = alk w c (hu h f) p y) → mj_run (mj_ev (d + 3)) k33 Q (k33 18) [some (.ref 48), some (.int (nI p)), some (.int (nI N)), some (.int (nI f)), some (.int (nI q))] [] (107, I', L, P) 0 0 := by
          refine loop_up ?_ (fun q hq ih2 => ?_)
          · intro I' e' z1 z2 z3
            have hn := (tW e').hn
            refine q_3 rfl ?_
            refine q_5 rfl ?_
            refine q_33 rfl (by decide) (hP _ _ _ rfl) ?_
            first | refine q_31E rfl (by decide) hn ?_ | refine q_31 rfl (by decide) ?_
            refine q_geN (by omega) (by omega) (fun hh => ?_) (fun hh => absurd hh (by omega))
            first | refine q_inc rfl rfl rfl ?_ | refine q_9 rfl rfl rfl ?_
            refine q_23 ?_
            refine ih I' _ (by omega) e' z1 (fun j x y hj hx hy hxy hpq => ?_)
            by_cases e : j = f
            · subst e
              rcases hpq with rfl | rfl
              · exact (z3 y hy (fun e => hxy e.symm) hy).1
              · rw [alk_comm]
                exact (z3 x hx hxy hx).2
            · exact z2 j x y (by omega) hx hy hxy hpq
          · intro I' e' z1 z2 z3
            have hn := (tW e').hn
            by_cases hqp : q = p
            · refine q_3 rfl ?_
              refine q_5 rfl ?_
              refine q_33 rfl (by decide) (hP _ _ _ rfl) ?_
              first | refine q_31E rfl (by decide) hn ?_ | refine q_31 rfl (by decide) ?_
              refine q_geN (by omega) (by omega) (fun hh => absurd hh (by omega)) (fun hh => ?_)
              refine q_3 rfl ?_
              refine q_3 rfl ?_
              refine q_eqN (by omega) (by omega) (fun hh => ?_) (fun hh => absurd hh (by omega))
              first | refine q_inc rfl rfl rfl ?_ | refine q_9 rfl rfl rfl ?_
              refine q_23 ?_
              exact ih2 I' e' z1 z2 (fun y hy hyp hyq => z3 y hy hyp (by omega))
            · refine q_3 rfl ?_
              refine q_5 rfl ?_
              refine q_33 rfl (by decide) (hP _ _ _ rfl) ?_
              first | refine q_31E rfl (by decide) hn ?_ | refine q_31 rfl (by decide) ?_
              refine q_geN (by omega) (by omega) (fun hh => absurd hh (by omega)) (fun hh => ?_)
              refine q_3 rfl ?_
              refine q_3 rfl ?_
              refine q_eqN (by omega) (by omega) (fun hh => absurd hh (by omega)) (fun hh => ?_)
              refine q_5 rfl ?_
              refine q_3 rfl ?_
              refine q_3 rfl ?_
              refine q_3 rfl ?_
              refine q_47 (mj_ev_mono _) [_, _, _] rfl rfl rfl (by decide) rfl rfl rfl ?_
              refine c_34 hP (tW e') (tR e') hp hq (fun e => hqp e.symm) (by omega) (fun I2 e2 same v1 v2 => ?_)
              first | refine q_inc rfl rfl rfl ?_ | refine q_9 rfl rfl rfl ?_
              refine q_23 ?_
              refine ih2 I2 (e'.tr e2) (fun j x y hx hy hxy hpq hj => ?_) (fun j x y hj hx hy hxy hpq => ?_) (fun y hy hyp hyq => ?_)
              · rw [same _ (by omega) (by omega)]
                exact z1 j x y hx hy hxy hpq hj
              · rw [same _ (by omega) (by omega)]
                exact z2 j x y hj hx hy hxy hpq
              · by_cases e : y = q
                · subst e
                  exact ⟨v1, v2⟩
                · rw [same _ (by omega) (by omega), same _ (by omega) (by omega)]
                  exact z3 y hy hyp (by omega)
        refine q_3 rfl ?_
        refine q_3 rfl ?_
        refine q_geN (by omega) (by omega) (fun hh => absurd hh (by omega)) (fun hh => ?_)
        refine q_3 rfl ?_
        refine q_5 rfl ?_
        first | refine q_31E rfl (by decide) j48 ?_ | refine q_31 rfl (by decide) ?_
        refine q_geN (by omega) (by omega) (fun hh => absurd hh (by omega)) (fun hh => ?_)
        refine q_0 ?_
        refine q_6 rfl rfl rfl ?_
        exact L18 0 (by omega) I' e' (fun j x y hx hy hxy hq hj => z1 j x y hx hy hxy (hq.imp id (fun q => by omega)) hj) z2 (fun y _ _ hq => absurd hq (by omega))
      · refine q_3 rfl ?_
        refine q_3 rfl ?_
        refine q_geN (by omega) (by omega) (fun hh => absurd hh (by omega)) (fun hh => ?_)
        refine q_3 rfl ?_
        refine q_5 rfl ?_
        first | refine q_31E rfl (by decide) j48 ?_ | refine q_31 rfl (by decide) ?_
        refine q_geN (by omega) (by omega) (fun hh => ?_) (fun hh => absurd hh (by omega))
        refine q_25 ?_
        exact k I' e' (fun j x y hx hy hxy hq hj => z1 j x y hx hy hxy (hq.imp id (fun q => by omega)) hj) (fun j x y h1 h2 hx hy hxy hq => z2 j x y (by omega) hx hy hxy hq)
  show mj_run (mj_ev (d + 3)) k33 Q (k33 0) [some (.ref 48), some (.int (nI p)), some (.int (nI N)), none, none] [] (107, I, L, P) 0 0
  refine q_0 ?_
  refine q_6 rfl rfl rfl ?_
  exact L2 0 (by omega) I _ (by omega) Eqf.rf (fun _ _ _ _ _ _ _ _ => rfl) (fun j x y hj => absurd hj (by omega))
theorem c_35 (hP : PS t P) (hW : CT w I) (hR : CW w.n 32 33 34 c h m I) (k : ∀ I', Eqf (frm [13, 15, 50] []) I I' → (∀ x y, x < y → y < w.n → I' 50 (x * 10 + y) = alk w (fun _ => 0) h x y) → Q (.inl none) (107, I', L, P)) : mj_ev (d + 3) 35 [.ref 48] (107, I, L, P) Q := by
  refine ⟨rfl, ?_⟩
  have hn10 := hW.n10
  have tW : ∀ {I' : mj_I}, Eqf (frm [13, 15, 50] []) I I' → CT w I' := fun e => hW.fr e ⟨rfl, rfl, rfl, rfl, rfl, rfl⟩ (fun _ => rfl) (fun _ _ => ⟨rfl, rfl, rfl, rfl⟩)
  have tR : ∀ {I' : mj_I}, Eqf (frm [13, 15, 50] []) I I' → CW w.n 32 33 34 c h m I' := fun e => hR.fr (funext fun j => e 32 j rfl) (funext fun j => e 33 j rfl) (funext fun j => e 34 j rfl)
  have L2 : ∀ a, a ≤ w.n → ∀ I' x2, Eqf (frm [13, 15, 50] []) I I' → (∀ x y, x < y → y < w.n → x < a → I' 50 (x * 10 + y) = alk w (fun _ => 0) h x y) → mj_run (mj_ev (d + 2)) k35 Q (k35 2) [some (.ref 48), some (.int (nI a)), x2] [] (107, I', L, P) 0 0 := by
    refine loop_up ?_ (fun a ha ih => ?_)
    · intro I' x2 e' z
      have hn := (tW e').hn
      refine q_3 rfl ?_
      refine q_5 rfl ?_
      refine q_33 rfl (by decide) (hP _ _ _ rfl) ?_
      first | refine q_31E rfl (by decide) hn ?_ | refine q_31 rfl (by decide) ?_
      refine q_geN (by omega) (by omega) (fun hh => ?_) (fun hh => absurd hh (by omega))
      refine q_25 ?_
      exact k I' e' (fun x y hxy hy => z x y hxy hy (by omega))
    · intro I' x2 e' z
      have L17 : ∀ b, b ≤ w.n → a + 1 ≤ b → ∀ I', Eqf (frm [13, 15, 50] []) I I' → (∀ x y, x < y → y < w.n → (x < a ∨ x = a ∧ y < b) → I' 50 (x * 10 + y) = alk w (fun _ => 0) h x y) → mj_run (mj_ev (d + 2)) k35 Q (k35 17) [some (.ref 48), some (.int (nI a)), some (.int (nI b))] [] (107, I', L, P) 0 0 := by
        refine loop_up ?_ (fun b hb ih2 => ?_)
        · intro _ I' e' z
          have hn := (tW e').hn
          refine q_3 rfl ?_
          refine q_5 rfl ?_
          refine q_33 rfl (by decide) (hP _ _ _ rfl) ?_
          first | refine q_31E rfl (by decide) hn ?_ | refine q_31 rfl (by decide) ?_
          refine q_geN (by omega) (by omega) (fun hh => ?_) (fun hh => absurd hh (by omega))
          first | refine q_inc rfl rfl rfl ?_ | refine q_9 rfl rfl rfl ?_
          refine q_23 ?_
          exact ih I' _ e' (fun x y hxy hy hq => z x y hxy hy (by omega))
        · intro hab I' e' z
          have hn := (tW e').hn
          have r1 := (tR e').hol ha
          have r2 := (tR e').hol hb
          have z1 := hR.h10 ha
          have z2 := hR.h10 hb
          refine q_3 rfl ?_
          refine q_5 rfl ?_
          refine q_33 rfl (by decide) (hP _ _ _ rfl) ?_
          first | refine q_31E rfl (by decide) hn ?_ | refine q_31 rfl (by decide) ?_
          refine q_geN (by omega) (by omega) (fun hh => absurd hh (by omega)) (fun hh => ?_)
          refine q_5 rfl ?_
          refine q_33 rfl (by decide) (hP _ _ _ rfl) ?_
          refine q_3 rfl ?_
          refine q_0 ?_
          first | refine q_mul ?_ | refine q_11 rfl ?_
          refine q_3 rfl ?_
          first | refine q_add ?_ | refine q_11 rfl ?_
          refine q_5 rfl ?_
          refine q_33 rfl (by decide) (hP _ _ _ rfl) ?_
          refine q_3 rfl ?_
          refine q_0 ?_
          refine q_5 rfl ?_
          refine q_33 rfl (by decide) (hP _ _ _ rfl) ?_
          refine q_33 rfl (by decide) (hP _ _ _ rfl) ?_
          refine q_3 rfl ?_
          first | refine q_38E _ rfl (by decide) rfl (by show _ < 10; omega) (by decide) (r1) ?_ | refine q_38E _ rfl (by decide) rfl (by show _ < 10; omega) (by decide) (r2) ?_ | refine q_38 _ rfl (by decide) rfl (by show _ < 10; omega) (by decide) ?_
          refine q_3 rfl ?_
          refine q_0 ?_
          refine q_5 rfl ?_
          refine q_33 rfl (by decide) (hP _ _ _ rfl) ?_
          refine q_33 rfl (by decide) (hP _ _ _ rfl) ?_
          refine q_3 rfl ?_
          first | refine q_38E _ rfl (by decide) rfl (by show _ < 10; omega) (by decide) (r1) ?_ | refine q_38E _ rfl (by decide) rfl (by show _ < 10; omega) (by decide) (r2) ?_ | refine q_38 _ rfl (by decide) rfl (by show _ < 10; omega) (by decide) ?_
          refine q_47 (mj_ev_mono _) [_, _, _, _, _, _] rfl rfl rfl (by decide) rfl rfl rfl ?_
          refine c_87w hP (tW e') ha hb ⟨by omega, by omega⟩ ⟨by omega, by omega⟩ (fun I1 e1 => ?_)
          refine q_42 _ rfl (by decide) rfl (by show _ < 100; omega) (by decide) ?_
          first | refine q_inc rfl rfl rfl ?_ | refine q_9 rfl rfl rfl ?_
          refine q_23 ?_
          refine ih2 (by omega) _ ((e'.tr (e1.to rfl rfl)).up rfl) (fun x y hxy hy hq => ?_)
          by_cases e : x = a ∧ y = b
          · obtain ⟨rfl, rfl⟩ := e
            exact upI_s
          · rw [upI_j (by omega), e1 50 _ rfl]
            exact z x y hxy hy (by omega)
      have hn := (tW e').hn
      refine q_3 rfl ?_
      refine q_5 rfl ?_
      refine q_33 rfl (by decide) (hP _ _ _ rfl) ?_
      first | refine q_31E rfl (by decide) hn ?_ | refine q_31 rfl (by decide) ?_
      refine q_geN (by omega) (by omega) (fun hh => absurd hh (by omega)) (fun hh => ?_)
      refine q_3 rfl ?_
      refine q_0 ?_
      first | refine q_add ?_ | refine q_11 rfl ?_
      refine q_6 rfl rfl rfl ?_
      exact L17 (a + 1) (by omega) (Nat.le_refl _) I' e' (fun x y hxy hy hq => z x y hxy hy (by omega))
  show mj_run (mj_ev (d + 2)) k35 Q (k35 0) [some (.ref 48), none, none] [] (107, I, L, P) 0 0
  refine q_0 ?_
  refine q_6 rfl rfl rfl ?_
  exact L2 0 (by omega) I _ Eqf.rf (fun x y _ _ hq => absurd hq (by omega))
end C
