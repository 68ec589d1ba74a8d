/-! the model's FAIRS -/
def frr (r : Nat) (c j : Nat) : Bool := (c == 91) || (c == 92) || (c == 89 && (Nat.ble r j && Nat.blt j (r + 33)))
theorem frr_in {r j : Nat} (h1 : r ≤ j) (h2 : j < r + 33) : frr r 89 j = true := by
  unfold frr
  rw [Nat.ble_eq_true_of_le h1, show Nat.blt j (r + 33) = true from Nat.ble_eq_true_of_le h2]
  rfl
theorem frr_lo {j : Nat} (h : j < 33) : frr 33 89 j = false := by
  unfold frr
  rw [show Nat.ble 33 j = false from Bool.eq_false_iff.mpr (fun e => by have := Nat.le_of_ble_eq_true e; omega)]
  rfl
theorem frr_91 {I I' : mj_I} {r : Nat} (h : Eqf (frm [91, 92] []) I I') : Eqf (frr r) I I' := h.mono (fun c j e => by
  unfold frr at e
  rw [Bool.or_eq_false_iff, Bool.or_eq_false_iff] at e
  unfold frm
  simp only [List.any_cons, List.any_nil, Bool.or_false]
  rw [e.1.1, e.1.2]
  rfl)
theorem MT.frr {w : WT} {I I' : mj_I} {r : Nat} (h : MT w I) (e : Eqf (frr r) I I') : MT w I' := h.fr e (fun _ => ⟨rfl, rfl, rfl, rfl, rfl, rfl, rfl, rfl⟩)
theorem MT.f91 {w : WT} {I I' : mj_I} (h : MT w I) (e : Eqf (frm [91, 92] []) I I') : MT w I' := h.fr e (fun _ => ⟨rfl, rfl, rfl, rfl, rfl, rfl, rfl, rfl⟩)
theorem RW.f91 {n r : Nat} {c h : Nat → Nat} {m : MM} {I I' : mj_I} (hR : RW n r c h m I) (e : Eqf (frm [91, 92] []) I I') : RW n r c h m I' := hR.fr e (fun _ _ _ => rfl)
theorem RW.f0 {n : Nat} {c h : Nat → Nat} {m : MM} {I I' : mj_I} (hR : RW n 0 c h m I) (e : Eqf (frr 33) I I') : RW n 0 c h m I' := hR.fr e (fun j _ h2 => frr_lo (by omega))
theorem MT.hn {w : WT} {I : mj_I} (h : MT w I) : I 73 1 = nI w.n := h.2.1
theorem MT.n10 {w : WT} {I : mj_I} (h : MT w I) : w.n ≤ 10 := h.1.1
theorem RW.bd {n r : Nat} {c h : Nat → Nat} {m : MM} {I : mj_I} (hR : RW n r c h m I) {a b : Nat} (ha : a < n) (hb : b < n) (hab : a ≠ b) (h1 : m a = none) (h2 : m b = none) : RW n r c h (bnd m a b) (mj_upI (mj_upI I 89 (r + 23 + a) (nI b)) 89 (r + 23 + b) (nI a)) := by
  have hn := hR.n10
  refine ⟨hn, fun p hp => ?_, fun p hp => ?_, fun p hp => ?_, hR.2.2.2.2.1, hR.2.2.2.2.2.1, gm_bnd hR.gm ha hb hab h1 h2⟩
  · rw [upI_j (by omega), upI_j (by omega)]
    exact hR.col hp
  · rw [upI_j (by omega), upI_j (by omega)]
    exact hR.hol hp
  · unfold bnd
    by_cases e1 : p = b
    · subst e1
      rw [upI_s, if_pos rfl]
      rfl
    · rw [upI_j (by omega), if_neg e1]
      by_cases e2 : p = a
      · subst e2
        rw [upI_s, if_pos rfl]
        rfl
      · rw [upI_j (by omega), if_neg e2]
        exact hR.mat hp
theorem RW.ub {n r : Nat} {c h : Nat → Nat} {m : MM} {I : mj_I} (hR : RW n r c h m I) {a b : Nat} (ha : a < n) (h1 : m a = some b) : RW n r c h (unb m a b) (mj_upI (mj_upI I 89 (r + 23 + a) (-(nI 1))) 89 (r + 23 + b) (-(nI 1))) := by
  have hn := hR.n10
  obtain ⟨hb, hab, h2⟩ := hR.gm a ha b h1
  refine ⟨hn, fun p hp => ?_, fun p hp => ?_, fun p hp => ?_, hR.2.2.2.2.1, hR.2.2.2.2.2.1, gm_unb hR.gm ha h1⟩
  · rw [upI_j (by omega), upI_j (by omega)]
    exact hR.col hp
  · rw [upI_j (by omega), upI_j (by omega)]
    exact hR.hol hp
  · unfold unb
    by_cases e1 : p = b
    · subst e1
      rw [upI_s, if_pos rfl]
      rfl
    · rw [upI_j (by omega), if_neg e1]
      by_cases e2 : p = a
      · subst e2
        rw [upI_s, if_pos rfl]
        rfl
      · rw [upI_j (by omega), if_neg e2]
        exact hR.mat hp
section M
variable {I : mj_I} {L : mj_L} {P : mj_P} {Q : mj_Q} {σ : mj_S} {d n r t a b : Nat} {w : WT} {c h : Nat → Nat} {m : MM}
theorem s_208 (hP : PS t P) (hr : r ≤ 33) (ha : a < 10) (hb : b < 10) (k : Q (.inl none) (107, mj_upI (mj_upI I 89 (r + 23 + a) (nI b)) 89 (r + 23 + b) (nI a), L, P)) : mj_ev (d + 1) 208 [.ref 73, .int (nI r), .int (nI a), .int (nI b)] (107, I, L, P) Q := by
  refine ⟨rfl, ?_⟩
  show mj_run (mj_ev d) k208 Q (k208 0) [some (.ref 73), some (.int (nI r)), some (.int (nI a)), some (.int (nI b))] [] (107, I, L, P) 0 0
  refine q_5 rfl ?_
  refine q_33 rfl (by decide) (hP _ _ _ rfl) ?_
  refine q_3 rfl ?_
  refine q_0 ?_
  first | refine q_add ?_ | refine q_11 rfl ?_
  refine q_3 rfl ?_
  first | refine q_add ?_ | refine q_11 rfl ?_
  refine q_3 rfl ?_
  refine q_42 _ rfl (by decide) rfl (by show _ < 66; omega) (by decide) ?_
  refine q_5 rfl ?_
  refine q_33 rfl (by decide) (hP _ _ _ rfl) ?_
  refine q_3 rfl ?_
  refine q_0 ?_
  first | refine q_add ?_ | refine q_11 rfl ?_
  refine q_3 rfl ?_
  first | refine q_add ?_ | refine q_11 rfl ?_
  refine q_3 rfl ?_
  refine q_42 _ rfl (by decide) rfl (by show _ < 66; omega) (by decide) ?_
  refine q_25 ?_
  exact k
theorem s_209 (hP : PS t P) (hr : r ≤ 33) (hR : RW n r c h m I) (ha : a < n) (h1 : m a = some b) (k : Q (.inl none) (107, mj_upI (mj_upI I 89 (r + 23 + a) (-(nI 1))) 89 (r + 23 + b) (-(nI 1)), L, P)) : mj_ev (d + 1) 209 [.ref 73, .int (nI r), .int (nI a)] (107, I, L, P) Q := by
  refine ⟨rfl, ?_⟩
  have hn := hR.n10
  have hb := (hR.gm a ha b h1).1
  have e1 : I 89 (r + 23 + a) = nI b := by
    rw [hR.mat ha, h1]
    rfl
  show mj_run (mj_ev d) k209 Q (k209 0) [some (.ref 73), some (.int (nI r)), some (.int (nI a)), none] [] (107, I, L, P) 0 0
  refine q_5 rfl ?_
  refine q_33 rfl (by decide) (hP _ _ _ rfl) ?_
  refine q_3 rfl ?_
  refine q_0 ?_
  first | refine q_add ?_ | refine q_11 rfl ?_
  refine q_3 rfl ?_
  first | refine q_add ?_ | refine q_11 rfl ?_
  first | refine q_38E _ rfl (by decide) rfl (by show _ < 66; omega) (by decide) (e1) ?_ | refine q_38 _ rfl (by decide) rfl (by show _ < 66; omega) (by decide) ?_
  refine q_6 rfl rfl rfl ?_
  refine q_5 rfl ?_
  refine q_33 rfl (by decide) (hP _ _ _ rfl) ?_
  refine q_3 rfl ?_
  refine q_0 ?_
  first | refine q_add ?_ | refine q_11 rfl ?_
  refine q_3 rfl ?_
  first | refine q_add ?_ | refine q_11 rfl ?_
  refine q_1 ?_
  refine q_42 _ rfl (by decide) rfl (by show _ < 66; omega) (by decide) ?_
  refine q_5 rfl ?_
  refine q_33 rfl (by decide) (hP _ _ _ rfl) ?_
  refine q_3 rfl ?_
  refine q_0 ?_
  first | refine q_add ?_ | refine q_11 rfl ?_
  refine q_3 rfl ?_
  first | refine q_add ?_ | refine q_11 rfl ?_
  refine q_1 ?_
  refine q_42 _ rfl (by decide) rfl (by show _ < 66; omega) (by decide) ?_
  refine q_25 ?_
  exact k
theorem s_210 (hP : PS t P) (hr : r ≤ 33) (hW : MT w I) (hR : RW w.n r c h m I) (k0 : (bst w.n (alk w c h) m).1 = none → ∀ I', Eqf (frr r) I I' → RW w.n r c h m I' → Eqf (frm [91, 92] []) I I' → Q (.inl (some (.int (nI 0)))) (107, I', L, P))
    (k1 : ∀ q, (bst w.n (alk w c h) m).1 = some q → ∀ I', Eqf (frr r) I I' → RW w.n r c h (bnd m q.1 q.2) I' → I' 89 r = I 89 r → Q (.inl (some (.int (nI 1)))) (107, I', L, P)) : mj_ev (d + 5) 210 [.ref 73, .int (nI r)] (107, I, L, P) Q := by
  refine ⟨rfl, ?_⟩
  have hn10 := hW.n10
  have L7 : ∀ a, a ≤ w.n → ∀ (acc : Option (Nat × Nat) × Int32) (I' : mj_I) (x5 x6 : Option Value), Eqf (frm [91, 92] []) I I' → fld w.n a (fun acc a => fld w.n (a + 1) (bstF (alk w c h) m a) acc) acc = bst w.n (alk w c h) m → mj_run (mj_ev (d + 4)) k210 Q (k210 7) [some (.ref 73), some (.int (nI r)), some (.int (bI acc.1)), some (.int acc.2), some (.int (nI a)), x5, x6] [] (107, I', L, P) 0 0 := by
    refine loop_up ?_ (fun a ha ih => ?_)
    · intro acc I' x5 x6 e' hf
      rw [fld_end (Nat.le_refl _)] at hf
      subst hf
      have hW' := hW.f91 e'
      have hR' := hR.f91 e'
      have hn := hW'.hn
      cases hb : (bst w.n (alk w c h) m).1 with
      | none =>
        refine q_3 rfl ?_
        refine q_5 rfl ?_
        first | refine q_31E rfl (by decide) hn ?_ | refine q_31 rfl (by decide) ?_
        refine q_geN (by omega) (by omega) (fun hh => ?_) (fun hh => absurd hh (by omega))
        refine q_3 rfl ?_
        refine q_1 ?_
        refine q_neI (fun h => absurd rfl h) (fun _ => ?_)
        refine q_0 ?_
        refine q_27 (by first | exact Or.inl rfl | exact Or.inr rfl | assumption | (split <;> first | exact Or.inl rfl | exact Or.inr rfl)) ?_
        exact k0 hb I' (frr_91 e') hR' e'
      | some q =>
        obtain ⟨g1, g2, g3, g4, -⟩ := bst_ok q hb
        obtain ⟨qa, qb⟩ := q
        have g1' : qa < qb := g1
        have g2' : qb < w.n := g2
        have d1 : (10 * qa + qb) / 10 = qa := by omega
        have d2 : (10 * qa + qb) % 10 = qb := by omega
        show mj_run (mj_ev (d + 4)) k210 Q (k210 7) [some (.ref 73), some (.int (nI r)), some (.int (nI (10 * qa + qb))), some (.int (bst w.n (alk w c h) m).2), some (.int (nI w.n)), x5, x6] [] (107, I', L, P) 0 0
        refine q_3 rfl ?_
        refine q_5 rfl ?_
        first | refine q_31E rfl (by decide) hn ?_ | refine q_31 rfl (by decide) ?_
        refine q_geN (by omega) (by omega) (fun hh => ?_) (fun hh => absurd hh (by omega))
        refine q_3 rfl ?_
        refine q_1 ?_
        refine q_neI (fun _ => ?_) (fun h => absurd (mI_ne (by omega)) h)
        refine q_5 rfl ?_
        refine q_3 rfl ?_
        refine q_3 rfl ?_
        refine q_0 ?_
        first | refine q_divN (by omega) (by omega) (by omega) ?_ | refine q_div (by assumption) ?_
        refine q_3 rfl ?_
        refine q_0 ?_
        first | refine q_remN (by omega) (by omega) (by omega) ?_ | refine q_rem (by assumption) ?_
        rw [d1, d2]
        refine q_47 (mj_ev_mono _) [_, _, _] rfl rfl rfl (by decide) rfl rfl rfl ?_
        refine s_208 hP hr (by omega) (by omega) ?_
        refine q_0 ?_
        refine q_27 (by first | exact Or.inl rfl | exact Or.inr rfl | assumption | (split <;> first | exact Or.inl rfl | exact Or.inr rfl)) ?_
        exact k1 _ hb _ ((frr_91 e').tr ((Eqf.rf.up (frr_in (by omega) (by omega))).up (frr_in (by omega) (by omega)))) (hR'.bd (by omega) g2' (by omega) g3 g4) (by rw [upI_j (by omega), upI_j (by omega)]; exact e' 89 r rfl)
    · have L22 : ∀ b, b ≤ w.n → a + 1 ≤ b → ∀ (acc : Option (Nat × Nat) × Int32) (I' : mj_I) (x6 : Option Value), Eqf (frm [91, 92] []) I I' → fld w.n (a + 1) (fun acc a => fld w.n (a + 1) (bstF (alk w c h) m a) acc) (fld w.n b (bstF (alk w c h) m a) acc) = bst w.n (alk w c h) m → mj_run (mj_ev (d + 4)) k210 Q (k210 22) [some (.ref 73), some (.int (nI r)), some (.int (bI acc.1)), some (.int acc.2), some (.int (nI a)), some (.int (nI b)), x6] [] (107, I', L, P) 0 0 := by
        refine loop_up ?_ (fun b hb ih2 => ?_)
        · intro _ acc I' x6 e' hf
          rw [fld_end (Nat.le_refl _)] at hf
          have hn := (hW.f91 e').hn
          refine q_3 rfl ?_
          refine q_5 rfl ?_
          first | refine q_31E rfl (by decide) hn ?_ | refine q_31 rfl (by decide) ?_
          refine q_geN (by omega) (by omega) (fun hh => ?_) (fun hh => absurd hh (by omega))
          first | refine q_inc rfl rfl rfl ?_ | refine q_9 rfl rfl rfl ?_
          refine q_23 ?_
          exact ih acc I' _ _ e' hf
        · intro hab acc I' x6 e' hf
          have hW' := hW.f91 e'
          have hR' := hR.f91 e'
          have hn := hW'.hn
          have ma := hR'.mat ha
          have mb := hR'.mat hb
          have m1 := hR'.m31 ha
          have m2 := hR'.m31 hb
          rw [fld_step hb] at hf
          refine q_3 rfl ?_
          refine q_5 rfl ?_
          first | refine q_31E rfl (by decide) hn ?_ | refine q_31 rfl (by decide) ?_
          refine q_geN (by omega) (by omega) (fun hh => absurd hh (by omega)) (fun hh => ?_)
          refine q_5 rfl ?_
          refine q_33 rfl (by decide) (hP _ _ _ rfl) ?_
          refine q_3 rfl ?_
          refine q_0 ?_
          first | refine q_add ?_ | refine q_11 rfl ?_
          refine q_3 rfl ?_
          first | refine q_add ?_ | refine q_11 rfl ?_
          first | refine q_38E _ rfl (by decide) rfl (by show _ < 66; omega) (by decide) (ma) ?_ | refine q_38E _ rfl (by decide) rfl (by show _ < 66; omega) (by decide) (mb) ?_ | refine q_38 _ rfl (by decide) rfl (by show _ < 66; omega) (by decide) ?_
          refine q_1 ?_
          refine q_neM m1 (fun h1 => ?_) (fun h1 => ?_)
          · first | refine q_inc rfl rfl rfl ?_ | refine q_9 rfl rfl rfl ?_
            refine q_23 ?_
            first | (rw [show bstF (alk w c h) m a acc b = (some (a, b), alk w c h a b) from if_pos ⟨h1, h2, h3⟩] at hf; exact ih2 (by omega) (some (a, b), alk w c h a b) I2 _ (e'.tr e2) hf) | (rw [show bstF (alk w c h) m a acc b = acc from if_neg (fun q => h3 q.2.2)] at hf; exact ih2 (by omega) acc I2 _ (e'.tr e2) hf) | (rw [show bstF (alk w c h) m a acc b = acc from if_neg (fun q => h2 q.2.1)] at hf; exact ih2 (by omega) acc I' _ e' hf) | (rw [show bstF (alk w c h) m a acc b = acc from if_neg (fun q => h1 q.1)] at hf; exact ih2 (by omega) acc I' _ e' hf)
          · refine q_5 rfl ?_
            refine q_33 rfl (by decide) (hP _ _ _ rfl) ?_
            refine q_3 rfl ?_
            refine q_0 ?_
            first | refine q_add ?_ | refine q_11 rfl ?_
            refine q_3 rfl ?_
            first | refine q_add ?_ | refine q_11 rfl ?_
            first | refine q_38E _ rfl (by decide) rfl (by show _ < 66; omega) (by decide) (ma) ?_ | refine q_38E _ rfl (by decide) rfl (by show _ < 66; omega) (by decide) (mb) ?_ | refine q_38 _ rfl (by decide) rfl (by show _ < 66; omega) (by decide) ?_
            refine q_1 ?_
            refine q_eqM m2 (fun h2 => ?_) (fun h2 => ?_)
            · refine q_5 rfl ?_
              refine q_3 rfl ?_
              refine q_3 rfl ?_
              refine q_3 rfl ?_
              refine q_47 (mj_ev_mono _) [_, _, _] rfl rfl rfl (by decide) rfl rfl rfl ?_
              refine s_205 hP hr hW' hR' ha hb (fun I2 e2 => ?_)
              refine q_6 rfl rfl rfl ?_
              refine q_3 rfl ?_
              refine q_3 rfl ?_
              refine q_gtI (fun h3 => ?_) (fun h3 => ?_)
              · refine q_0 ?_
                refine q_3 rfl ?_
                first | refine q_mul ?_ | refine q_11 rfl ?_
                refine q_3 rfl ?_
                first | refine q_add ?_ | refine q_11 rfl ?_
                refine q_6 rfl rfl rfl ?_
                refine q_3 rfl ?_
                refine q_6 rfl rfl rfl ?_
                first | refine q_inc rfl rfl rfl ?_ | refine q_9 rfl rfl rfl ?_
                refine q_23 ?_
                first | (rw [show bstF (alk w c h) m a acc b = (some (a, b), alk w c h a b) from if_pos ⟨h1, h2, h3⟩] at hf; exact ih2 (by omega) (some (a, b), alk w c h a b) I2 _ (e'.tr e2) hf) | (rw [show bstF (alk w c h) m a acc b = acc from if_neg (fun q => h3 q.2.2)] at hf; exact ih2 (by omega) acc I2 _ (e'.tr e2) hf) | (rw [show bstF (alk w c h) m a acc b = acc from if_neg (fun q => h2 q.2.1)] at hf; exact ih2 (by omega) acc I' _ e' hf) | (rw [show bstF (alk w c h) m a acc b = acc from if_neg (fun q => h1 q.1)] at hf; exact ih2 (by omega) acc I' _ e' hf)
              · refine q_23 ?_
                first | refine q_inc rfl rfl rfl ?_ | refine q_9 rfl rfl rfl ?_
                refine q_23 ?_
                first | (rw [show bstF (alk w c h) m a acc b = (some (a, b), alk w c h a b) from if_pos ⟨h1, h2, h3⟩] at hf; exact ih2 (by omega) (some (a, b), alk w c h a b) I2 _ (e'.tr e2) hf) | (rw [show bstF (alk w c h) m a acc b = acc from if_neg (fun q => h3 q.2.2)] at hf; exact ih2 (by omega) acc I2 _ (e'.tr e2) hf) | (rw [show bstF (alk w c h) m a acc b = acc from if_neg (fun q => h2 q.2.1)] at hf; exact ih2 (by omega) acc I' _ e' hf) | (rw [show bstF (alk w c h) m a acc b = acc from if_neg (fun q => h1 q.1)] at hf; exact ih2 (by omega) acc I' _ e' hf)
            · refine q_23 ?_
              first | refine q_inc rfl rfl rfl ?_ | refine q_9 rfl rfl rfl ?_
              refine q_23 ?_
              first | (rw [show bstF (alk w c h) m a acc b = (some (a, b), alk w c h a b) from if_pos ⟨h1, h2, h3⟩] at hf; exact ih2 (by omega) (some (a, b), alk w c h a b) I2 _ (e'.tr e2) hf) | (rw [show bstF (alk w c h) m a acc b = acc from if_neg (fun q => h3 q.2.2)] at hf; exact ih2 (by omega) acc I2 _ (e'.tr e2) hf) | (rw [show bstF (alk w c h) m a acc b = acc from if_neg (fun q => h2 q.2.1)] at hf; exact ih2 (by omega) acc I' _ e' hf) | (rw [show bstF (alk w c h) m a acc b = acc from if_neg (fun q => h1 q.1)] at hf; exact ih2 (by omega) acc I' _ e' hf)
      intro acc I' x5 x6 e' hf
      rw [fld_step ha] at hf
      have hn := (hW.f91 e').hn
      refine q_3 rfl ?_
      refine q_5 rfl ?_
      first | refine q_31E rfl (by decide) hn ?_ | refine q_31 rfl (by decide) ?_
      refine q_geN (by omega) (by omega) (fun hh => absurd hh (by omega)) (fun hh => ?_)
      refine q_3 rfl ?_
      refine q_0 ?_
      first | refine q_add ?_ | refine q_11 rfl ?_
      refine q_6 rfl rfl rfl ?_
      exact L22 (a + 1) (by omega) (Nat.le_refl _) acc I' _ e' hf
  show mj_run (mj_ev (d + 4)) k210 Q (k210 0) [some (.ref 73), some (.int (nI r)), none, none, none, none, none] [] (107, I, L, P) 0 0
  refine q_1 ?_
  refine q_6 rfl rfl rfl ?_
  refine q_0 ?_
  refine q_6 rfl rfl rfl ?_
  refine q_0 ?_
  refine q_6 rfl rfl rfl ?_
  exact L7 0 (by omega) (none, 0) I _ _ Eqf.rf rfl
theorem s_211 (hP : PS t P) (hr : r ≤ 33) (hW : MT w I) (hR : RW w.n r c h m I) (k : ∀ I', Eqf (frr r) I I' → RW w.n r c h (bal w.n (alk w c h) w.n m) I' → I' 89 r = I 89 r → Q (.inl none) (107, I', L, P)) : mj_ev (d + 6) 211 [.ref 73, .int (nI r)] (107, I, L, P) Q := by
  refine ⟨rfl, ?_⟩
  have L2 : ∀ f (m1 : MM) (I' : mj_I), fre w.n m1 ≤ f → Eqf (frr r) I I' → RW w.n r c h m1 I' → I' 89 r = I 89 r → bal w.n (alk w c h) f m1 = bal w.n (alk w c h) w.n m → mj_run (mj_ev (d + 5)) k211 Q (k211 2) [some (.ref 73), some (.int (nI r)), some (.int (nI 1))] [] (107, I', L, P) 0 0 := by
    intro f
    induction f with
    | zero =>
      intro m1 I' hf e' hR' hy hb
      refine q_3 rfl ?_
      refine q_eqN0 (by omega) (fun h => absurd h (by omega)) (fun _ => ?_)
      refine q_5 rfl ?_
      refine q_3 rfl ?_
      refine q_47 (mj_ev_mono _) [_] rfl rfl rfl (by decide) rfl rfl rfl ?_
      refine s_210 hP hr (hW.frr e') hR' (fun _ I2 e2 hR2 e3 => ?_) (fun q hq => by rw [bst_none (Nat.le_zero.mp hf)] at hq; cases hq)
      refine q_6 rfl rfl rfl ?_
      refine q_23 ?_
      refine q_3 rfl ?_
      refine q_eqN0 (by omega) (fun _ => ?_) (fun h => absurd rfl h)
      refine q_25 ?_
      exact k I2 (e'.tr e2) (by rw [← hb]; exact hR2) ((e3 89 r rfl).trans hy)
    | succ f ih =>
      intro m1 I' hf e' hR' hy hb
      refine q_3 rfl ?_
      refine q_eqN0 (by omega) (fun h => absurd h (by omega)) (fun _ => ?_)
      refine q_5 rfl ?_
      refine q_3 rfl ?_
      refine q_47 (mj_ev_mono _) [_] rfl rfl rfl (by decide) rfl rfl rfl ?_
      refine s_210 hP hr (hW.frr e') hR' (fun hn I2 e2 hR2 e3 => ?_) (fun q hq I2 e2 hR2 hy2 => ?_)
      rotate_left
      · refine q_6 rfl rfl rfl ?_
        refine q_23 ?_
        obtain ⟨g1, g2, g3, g4, -⟩ := bst_ok q hq
        refine ih _ I2 ?_ (e'.tr e2) hR2 (hy2.trans hy) ?_
        · have := fre_bnd (n := w.n) (m := m1) (a := q.1) (b := q.2) (by omega) g2 (by omega) g3 g4
          omega
        · rw [← hb, bal, hq]
      refine q_6 rfl rfl rfl ?_
      refine q_23 ?_
      refine q_3 rfl ?_
      refine q_eqN0 (by omega) (fun _ => ?_) (fun h => absurd rfl h)
      refine q_25 ?_
      refine k I2 (e'.tr e2) ?_ ((e3 89 r rfl).trans hy)
      rw [← hb, bal, hn]
      exact hR2
  show mj_run (mj_ev (d + 5)) k211 Q (k211 0) [some (.ref 73), some (.int (nI r)), none] [] (107, I, L, P) 0 0
  refine q_0 ?_
  refine q_6 rfl rfl rfl ?_
  exact L2 w.n m I (fre_le _ _) Eqf.rf hR rfl rfl
theorem RW.hs (hR : RW n r c h m I) {p v : Nat} (hp : p < n) (hv : v < 10) : RW n r c (fun x => if x = p then v else h x) m (mj_upI I 89 (r + 12 + p) (nI v)) := by
  have hn := hR.n10
  refine ⟨hn, fun q hq => ?_, fun q hq => ?_, fun q hq => ?_, hR.2.2.2.2.1, fun q hq => ?_, hR.gm⟩
  · rw [upI_j (by omega)]
    exact hR.col hq
  · show _ = nI (if q = p then v else h q)
    by_cases e : q = p
    · subst e
      rw [upI_s, if_pos rfl]
    · rw [upI_j (by omega), if_neg e]
      exact hR.hol hq
  · rw [upI_j (by omega)]
    exact hR.mat hq
  · show (if q = p then v else h q) < 10
    split
    · exact hv
    · exact hR.h10 hq
theorem RW.cs (hR : RW n r c h m I) {p v : Nat} (hp : p < n) (hv : v < 10) : RW n r (fun x => if x = p then v else c x) h m (mj_upI I 89 (r + 1 + p) (nI v)) := by
  have hn := hR.n10
  refine ⟨hn, fun q hq => ?_, fun q hq => ?_, fun q hq => ?_, fun q hq => ?_, hR.2.2.2.2.2.1, hR.gm⟩
  · show _ = nI (if q = p then v else c q)
    by_cases e : q = p
    · subst e
      rw [upI_s, if_pos rfl]
    · rw [upI_j (by omega), if_neg e]
      exact hR.col hq
  · rw [upI_j (by omega)]
    exact hR.hol hq
  · rw [upI_j (by omega)]
    exact hR.mat hq
  · show (if q = p then v else c q) < 10
    split
    · exact hv
    · exact hR.c10 hq
theorem RW.yr (hR : RW n r c h m I) {v : Int32} : RW n r c h m (mj_upI I 89 r v) := by
  refine ⟨hR.n10, fun q hq => ?_, fun q hq => ?_, fun q hq => ?_, hR.2.2.2.2⟩
  · rw [upI_j (by omega)]
    exact hR.col hq
  · rw [upI_j (by omega)]
    exact hR.hol hq
  · rw [upI_j (by omega)]
    exact hR.mat hq
theorem RW.cg {c' h' : Nat → Nat} {m' : MM} (hR : RW n r c h m I) (h1 : ∀ p, p < n → c' p = c p) (h2 : ∀ p, p < n → h' p = h p) (h3 : m' = m) : RW n r c' h' m' I := by
  subst h3
  exact ⟨hR.n10, fun q hq => by rw [h1 q hq]; exact hR.col hq, fun q hq => by rw [h2 q hq]; exact hR.hol hq, fun q hq => hR.mat hq, fun q hq => by rw [h1 q hq]; exact hR.c10 hq, fun q hq => by rw [h2 q hq]; exact hR.h10 hq, hR.gm⟩
theorem s_212 (hP : PS t P) (hr : r ≤ 33) (hW : MT w I) (hR : RW w.n r c h m I) (k : ∀ I', Eqf (frr r) I I' → RW w.n r c (hup h) (prt w.n (fun p => decide (9 ≤ hup h p)) m).1 I' → I' 89 r = I 89 r → Q (.inl (some (.int (nI (prt w.n (fun p => decide (9 ≤ hup h p)) m).2)))) (107, I', L, P)) : mj_ev (d + 2) 212 [.ref 73, .int (nI r)] (107, I, L, P) Q := by
  refine ⟨rfl, ?_⟩
  have hn10 := hW.n10
  have L55 : ∀ p, p ≤ w.n → ∀ (acc : MM × Nat) (I' : mj_I), Eqf (frr r) I I' → RW w.n r c (hup h) acc.1 I' → I' 89 r = I 89 r → fld w.n p (prtF (fun p => decide (9 ≤ hup h p))) acc = prt w.n (fun p => decide (9 ≤ hup h p)) m → mj_run (mj_ev (d + 1)) k212 Q (k212 55) [some (.ref 73), some (.int (nI r)), some (.int (nI acc.2)), some (.int (nI p))] [] (107, I', L, P) 0 0 := by
    refine loop_up ?_ (fun p hp ih => ?_)
    · intro acc I' e' hR' hy hf
      rw [fld_end (Nat.le_refl _)] at hf
      subst hf
      have hn := (hW.frr e').hn
      refine q_3 rfl ?_
      refine q_5 rfl ?_
      first | refine q_31E rfl (by decide) hn ?_ | refine q_31 rfl (by decide) ?_
      refine q_geN (by omega) (by omega) (fun hh => ?_) (fun hh => absurd hh (by omega))
      refine q_3 rfl ?_
      refine q_26 ?_
      exact k I' e' hR' hy
    · intro acc I' e' hR' hy hf
      rw [fld_step hp] at hf
      have hn := (hW.frr e').hn
      have g1 := hR'.hol hp
      have g2 := hR'.mat hp
      have g3 := hR'.h10 hp
      have m1 := hR'.m31 hp
      obtain ⟨m', x⟩ := acc
      refine q_3 rfl ?_
      refine q_5 rfl ?_
      first | refine q_31E rfl (by decide) hn ?_ | refine q_31 rfl (by decide) ?_
      refine q_geN (by omega) (by omega) (fun hh => absurd hh (by omega)) (fun hh => ?_)
      refine q_5 rfl ?_
      refine q_33 rfl (by decide) (hP _ _ _ rfl) ?_
      refine q_3 rfl ?_
      refine q_0 ?_
      first | refine q_add ?_ | refine q_11 rfl ?_
      refine q_3 rfl ?_
      first | refine q_add ?_ | refine q_11 rfl ?_
      first | refine q_38E _ rfl (by decide) rfl (by show _ < 66; omega) (by decide) (g1) ?_ | refine q_38E _ rfl (by decide) rfl (by show _ < 66; omega) (by decide) (g2) ?_ | refine q_38 _ rfl (by decide) rfl (by show _ < 66; omega) (by decide) ?_
      refine q_0 ?_
      refine q_ltN (by omega) (by omega) (fun h1 => ?_) (fun h1 => ?_)
      · first | refine q_inc rfl rfl rfl ?_ | refine q_9 rfl rfl rfl ?_
        refine q_23 ?_
        first | (rw [prtF_1 (decide_eq_true h1) hb] at hf; exact ih (unb m' p q, x + 1) _ (e'.tr ((Eqf.rf.up (frr_in (by omega) (by omega))).up (frr_in (by omega) (by omega)))) (hR'.ub hp hb) (by rw [upI_j (by omega), upI_j (by omega)]; exact hy) hf) | (rw [prtF_0 h2] at hf; exact ih (m', x) I' e' hR' hy hf) | (rw [prtF_no (decide_eq_false (by omega))] at hf; exact ih (m', x) I' e' hR' hy hf)
      · refine q_5 rfl ?_
        refine q_33 rfl (by decide) (hP _ _ _ rfl) ?_
        refine q_3 rfl ?_
        refine q_0 ?_
        first | refine q_add ?_ | refine q_11 rfl ?_
        refine q_3 rfl ?_
        first | refine q_add ?_ | refine q_11 rfl ?_
        first | refine q_38E _ rfl (by decide) rfl (by show _ < 66; omega) (by decide) (g1) ?_ | refine q_38E _ rfl (by decide) rfl (by show _ < 66; omega) (by decide) (g2) ?_ | refine q_38 _ rfl (by decide) rfl (by show _ < 66; omega) (by decide) ?_
        refine q_1 ?_
        refine q_neM m1 (fun h2 => ?_) (fun h2 => ?_)
        · refine q_5 rfl ?_
          refine q_3 rfl ?_
          refine q_3 rfl ?_
          obtain ⟨q, hq⟩ := Option.ne_none_iff_exists'.mp h2
          have hb : (m' p) = some q := hq
          have hg := hR'.gm p hp q hb
          refine q_47 (mj_ev_mono _) [_, _] rfl rfl rfl (by decide) rfl rfl rfl ?_
          refine s_209 hP hr hR' hp hb ?_
          first | refine q_inc rfl rfl rfl ?_ | refine q_9 rfl rfl rfl ?_
          first | refine q_inc rfl rfl rfl ?_ | refine q_9 rfl rfl rfl ?_
          refine q_23 ?_
          first | (rw [prtF_1 (decide_eq_true h1) hb] at hf; exact ih (unb m' p q, x + 1) _ (e'.tr ((Eqf.rf.up (frr_in (by omega) (by omega))).up (frr_in (by omega) (by omega)))) (hR'.ub hp hb) (by rw [upI_j (by omega), upI_j (by omega)]; exact hy) hf) | (rw [prtF_0 h2] at hf; exact ih (m', x) I' e' hR' hy hf) | (rw [prtF_no (decide_eq_false (by omega))] at hf; exact ih (m', x) I' e' hR' hy hf)
        · refine q_23 ?_
          first | refine q_inc rfl rfl rfl ?_ | refine q_9 rfl rfl rfl ?_
          refine q_23 ?_
          first | (rw [prtF_1 (decide_eq_true h1) hb] at hf; exact ih (unb m' p q, x + 1) _ (e'.tr ((Eqf.rf.up (frr_in (by omega) (by omega))).up (frr_in (by omega) (by omega)))) (hR'.ub hp hb) (by rw [upI_j (by omega), upI_j (by omega)]; exact hy) hf) | (rw [prtF_0 h2] at hf; exact ih (m', x) I' e' hR' hy hf) | (rw [prtF_no (decide_eq_false (by omega))] at hf; exact ih (m', x) I' e' hR' hy hf)
  have L4 : ∀ p, p ≤ w.n → ∀ (I' : mj_I), Eqf (frr r) I I' → RW w.n r c (fun x => if x < p then hup h x else h x) m I' → I' 89 r = I 89 r → mj_run (mj_ev (d + 1)) k212 Q (k212 4) [some (.ref 73), some (.int (nI r)), some (.int (nI 0)), some (.int (nI p))] [] (107, I', L, P) 0 0 := by
    refine loop_up ?_ (fun p hp ih => ?_)
    · intro I' e' hR' hy
      have hn := (hW.frr e').hn
      refine q_3 rfl ?_
      refine q_5 rfl ?_
      first | refine q_31E rfl (by decide) hn ?_ | refine q_31 rfl (by decide) ?_
      refine q_geN (by omega) (by omega) (fun hh => ?_) (fun hh => absurd hh (by omega))
      refine q_0 ?_
      refine q_6 rfl rfl rfl ?_
      exact L55 0 (by omega) (m, 0) I' e' (hR'.cg (fun _ _ => rfl) (fun p hp => by rw [if_pos hp]) rfl) hy rfl
    · intro I' e' hR' hy
      have hn := (hW.frr e').hn
      have g1 : I' 89 (r + 12 + p) = nI (h p) := by
        have := hR'.hol hp
        rw [if_neg (by omega)] at this
        exact this
      have g3 : h p < 10 := by
        have := hR'.h10 hp
        rw [if_neg (by omega)] at this
        exact this
      refine q_3 rfl ?_
      refine q_5 rfl ?_
      first | refine q_31E rfl (by decide) hn ?_ | refine q_31 rfl (by decide) ?_
      refine q_geN (by omega) (by omega) (fun hh => absurd hh (by omega)) (fun hh => ?_)
      refine q_5 rfl ?_
      refine q_33 rfl (by decide) (hP _ _ _ rfl) ?_
      refine q_3 rfl ?_
      refine q_0 ?_
      first | refine q_add ?_ | refine q_11 rfl ?_
      refine q_3 rfl ?_
      first | refine q_add ?_ | refine q_11 rfl ?_
      refine q_20 rfl rfl ?_
      first | refine q_38E _ rfl (by decide) rfl (by show _ < 66; omega) (by decide) (g1) ?_ | refine q_38 _ rfl (by decide) rfl (by show _ < 66; omega) (by decide) ?_
      refine q_5 rfl ?_
      refine q_33 rfl (by decide) (hP _ _ _ rfl) ?_
      refine q_3 rfl ?_
      refine q_0 ?_
      first | refine q_add ?_ | refine q_11 rfl ?_
      refine q_3 rfl ?_
      first | refine q_add ?_ | refine q_11 rfl ?_
      first | refine q_38E _ rfl (by decide) rfl (by show _ < 66; omega) (by decide) (g1) ?_ | refine q_38 _ rfl (by decide) rfl (by show _ < 66; omega) (by decide) ?_
      refine q_0 ?_
      first | refine q_d22_3Nn (J := 45) (by omega) (by omega) (fun j => q_0 (j)) (fun j => q_0 (q_23 (j))) ?_ | refine q_d22_3Ni (J := 45) (by omega) (by omega) (fun j => q_0 (j)) (fun j => q_0 (q_23 (j))) ?_ | refine q_d22_3In (J := 45) (fun j => q_0 (j)) (fun j => q_0 (q_23 (j))) ?_ | refine q_d22_3Ii (J := 45) (fun j => q_0 (j)) (fun j => q_0 (q_23 (j))) ?_
      first | refine q_add ?_ | refine q_11 rfl ?_
      refine q_42 _ rfl (by decide) rfl (by show _ < 66; omega) (by decide) ?_
      first | refine q_inc rfl rfl rfl ?_ | refine q_9 rfl rfl rfl ?_
      refine q_23 ?_
      refine ih _ (e'.up (frr_in (by omega) (by omega))) ?_ (by rw [upI_j (by omega)]; exact hy)
      refine (hR'.hs (v := h p + (if h p < 9 then 1 else 0)) hp (by split <;> omega)).cg (fun _ _ => rfl) (fun q hq => ?_) rfl
      show _ = if q = p then _ else if q < p then hup h q else h q
      by_cases e : q = p
      · subst e
        rw [if_pos (by omega), if_pos rfl]
        unfold hup
        split <;> rfl
      · rw [if_neg e]
        by_cases e2 : q < p
        · rw [if_pos e2, if_pos (by omega)]
        · rw [if_neg e2, if_neg (by omega)]
  show mj_run (mj_ev (d + 1)) k212 Q (k212 0) [some (.ref 73), some (.int (nI r)), none, none] [] (107, I, L, P) 0 0
  refine q_0 ?_
  refine q_6 rfl rfl rfl ?_
  refine q_0 ?_
  refine q_6 rfl rfl rfl ?_
  exact L4 0 (by omega) I Eqf.rf (hR.cg (fun _ _ => rfl) (fun q _ => if_neg (by omega)) rfl) rfl
theorem s_213 (hP : PS t P) (hr : r ≤ 33) (hW : MT w I) (hR : RW w.n r c h m I) (k : ∀ I', Eqf (frr r) I I' → RW w.n r c (hld w c (h, m)).1 (hld w c (h, m)).2 I' → I' 89 r = I 89 r + nI 1 → Q (.inl (some (.int (nI (hldm w c (h, m)).2)))) (107, I', L, P)) : mj_ev (d + 7) 213 [.ref 73, .int (nI r)] (107, I, L, P) Q := by
  refine ⟨rfl, ?_⟩
  show mj_run (mj_ev (d + 6)) k213 Q (k213 0) [some (.ref 73), some (.int (nI r))] [] (107, I, L, P) 0 0
  refine q_5 rfl ?_
  refine q_3 rfl ?_
  refine q_47 (mj_ev_mono _) [_] rfl rfl rfl (by decide) rfl rfl rfl ?_
  refine s_211 hP hr hW hR (fun I1 e1 hR1 hy1 => ?_)
  refine q_5 rfl ?_
  refine q_33 rfl (by decide) (hP _ _ _ rfl) ?_
  refine q_3 rfl ?_
  refine q_0 ?_
  first | refine q_add ?_ | refine q_11 rfl ?_
  refine q_20 rfl rfl ?_
  refine q_38 _ rfl (by decide) rfl (by show _ < 66; omega) (by decide) ?_
  refine q_0 ?_
  refine q_11 rfl ?_
  refine q_42 _ rfl (by decide) rfl (by show _ < 66; omega) (by decide) ?_
  refine q_5 rfl ?_
  refine q_3 rfl ?_
  refine q_47 (mj_ev_mono _) [_] rfl rfl rfl (by decide) rfl rfl rfl ?_
  refine s_212 hP hr ((hW.frr e1).frr (Eqf.rf.up (frr_in (r := r) (j := r) (by omega) (by omega)))) hR1.yr (fun I2 e2 hR2 hy2 => ?_)
  refine q_26 ?_
  exact k I2 (e1.tr ((Eqf.rf.up (frr_in (r := r) (j := r) (by omega) (by omega))).tr e2)) hR2 (by rw [hy2]; show mj_upI I1 89 r (I1 89 r + nI 1) 89 r = _; rw [upI_s, hy1])
theorem s_200 (hP : PS t P) (k : ∀ I', Eqf (frr 33) I I' → (∀ j, j < 33 → I' 89 (33 + j) = I 89 j) → Q (.inl none) (107, I', L, P)) : mj_ev (d + 1) 200 [.ref 73] (107, I, L, P) Q := by
  refine ⟨rfl, ?_⟩
  have L2 : ∀ i, i ≤ 33 → ∀ (I' : mj_I), Eqf (frr 33) I I' → (∀ j, j < i → I' 89 (33 + j) = I 89 j) → mj_run (mj_ev d) k200 Q (k200 2) [some (.ref 73), some (.int (nI i))] [] (107, I', L, P) 0 0 := by
    refine loop_up ?_ (fun i hi ih => ?_)
    · intro I' e' h'
      refine q_3 rfl ?_
      refine q_0 ?_
      refine q_geN (by omega) (by omega) (fun hh => ?_) (fun hh => absurd hh (by omega))
      refine q_25 ?_
      exact k I' e' h'
    · intro I' e' h'
      have g : I' 89 i = I 89 i := e' 89 i (frr_lo hi)
      refine q_3 rfl ?_
      refine q_0 ?_
      refine q_geN (by omega) (by omega) (fun hh => absurd hh (by omega)) (fun hh => ?_)
      refine q_5 rfl ?_
      refine q_33 rfl (by decide) (hP _ _ _ rfl) ?_
      refine q_0 ?_
      refine q_3 rfl ?_
      first | refine q_add ?_ | refine q_11 rfl ?_
      refine q_5 rfl ?_
      refine q_33 rfl (by decide) (hP _ _ _ rfl) ?_
      refine q_3 rfl ?_
      first | refine q_38E _ rfl (by decide) rfl (by show _ < 66; omega) (by decide) (g) ?_ | refine q_38 _ rfl (by decide) rfl (by show _ < 66; omega) (by decide) ?_
      refine q_42 _ rfl (by decide) rfl (by show _ < 66; omega) (by decide) ?_
      first | refine q_inc rfl rfl rfl ?_ | refine q_9 rfl rfl rfl ?_
      refine q_23 ?_
      refine ih _ (e'.up (frr_in (by omega) (by omega))) (fun j hj => ?_)
      by_cases e : j = i
      · subst e
        exact upI_s
      · rw [upI_j (by omega)]
        exact h' j (by omega)
  show mj_run (mj_ev d) k200 Q (k200 0) [some (.ref 73), none] [] (107, I, L, P) 0 0
  refine q_0 ?_
  refine q_6 rfl rfl rfl ?_
  exact L2 0 (by omega) I Eqf.rf (fun j hj => absurd hj (by omega))
theorem RW.cp {I' : mj_I} (hR : RW n 0 c h m I) (h' : ∀ j, j < 33 → I' 89 (33 + j) = I 89 j) : RW n 33 c h m I' := by
  have hn := hR.n10
  refine ⟨hn, fun q hq => ?_, fun q hq => ?_, fun q hq => ?_, hR.2.2.2.2⟩
  · rw [Nat.add_assoc, h' _ (by omega)]
    exact hR.col0 hq
  · rw [Nat.add_assoc, h' _ (by omega)]
    exact hR.hol0 hq
  · rw [Nat.add_assoc, h' _ (by omega)]
    exact hR.mat0 hq
theorem s_214 {N : Nat} (hP : PS t P) (hN : N < 1000) (hW : MT w I) (hR : RW w.n 0 c h m I) (k : ∀ I', Eqf (frr 33) I I' → RW w.n 33 c (many w c (h, m) N).1 (many w c (h, m) N).2 I' → Q (.inl none) (107, I', L, P)) : mj_ev (d + 8) 214 [.ref 73, .int (nI N)] (107, I, L, P) Q := by
  refine ⟨rfl, ?_⟩
  have L6 : ∀ i, i ≤ N → ∀ (I' : mj_I), Eqf (frr 33) I I' → RW w.n 33 c (many w c (h, m) i).1 (many w c (h, m) i).2 I' → mj_run (mj_ev (d + 7)) k214 Q (k214 6) [some (.ref 73), some (.int (nI N)), some (.int (nI i))] [] (107, I', L, P) 0 0 := by
    refine loop_up ?_ (fun i hi ih => ?_)
    · intro I' e' hR'
      refine q_3 rfl ?_
      refine q_3 rfl ?_
      refine q_geN (by omega) (by omega) (fun hh => ?_) (fun hh => absurd hh (by omega))
      refine q_25 ?_
      exact k I' e' hR'
    · intro I' e' hR'
      refine q_3 rfl ?_
      refine q_3 rfl ?_
      refine q_geN (by omega) (by omega) (fun hh => absurd hh (by omega)) (fun hh => ?_)
      refine q_5 rfl ?_
      refine q_0 ?_
      refine q_47 (mj_ev_mono _) [_] rfl rfl rfl (by decide) rfl rfl rfl ?_
      refine s_213 hP (by omega) (hW.frr e') hR' (fun I2 e2 hR2 _ => ?_)
      refine q_19 rfl ?_
      first | refine q_inc rfl rfl rfl ?_ | refine q_9 rfl rfl rfl ?_
      refine q_23 ?_
      exact ih I2 (e'.tr e2) hR2
  show mj_run (mj_ev (d + 7)) k214 Q (k214 0) [some (.ref 73), some (.int (nI N)), none] [] (107, I, L, P) 0 0
  refine q_5 rfl ?_
  refine q_47 (mj_ev_mono _) [] rfl rfl rfl (by decide) rfl rfl rfl ?_
  refine s_200 hP (fun I1 e1 h1 => ?_)
  refine q_0 ?_
  refine q_6 rfl rfl rfl ?_
  exact L6 0 (by omega) I1 e1 (hR.cp h1)
end M
