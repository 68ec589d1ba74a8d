/-! the class: one sock is another one for a while: the least way, who darns -/
theorem hu_at {h h' : Nat → Nat} {x : Nat} (e : h' x = h x) : ∀ j, hu h' j x = hu h j x
  | 0 => e
  | j + 1 => by
    show hup (hu h' j) x = hup (hu h j) x
    unfold hup
    rw [hu_at e j]
theorem alk_off {w : WT} {c c' h h' : Nat → Nat} {x y : Nat} (e1 : c' x = c x) (e2 : c' y = c y) (e3 : h' x = h x) (e4 : h' y = h y) : alk w c' h' x y = alk w c h x y := by
  unfold alk
  rw [e1, e2, e3, e4]
/-- what is known beside the couples of p that are figured anew -/
def GO (w : WT) (c h : Nat → Nat) (p N k0 : Nat) (I : mj_I) : Prop := ∀ j, j < k0 → ∀ x y, x < w.n → y < w.n → x ≠ y → ((x ≠ p ∧ y ≠ p) ∨ N ≤ j) → I 49 (100 * j + 10 * x + y) = alk w c (hu h j) x y
theorem CW.cg {n x y z : Nat} {c c' h h' : Nat → Nat} {m : MM} {I : mj_I} (hR : CW n x y z c h m I) (e1 : ∀ p, p < n → c' p = c p) (e2 : ∀ p, p < n → h' p = h p) : CW n x y z c' h' m I := by
  obtain ⟨h1, h2, h3, h4, h5, h6, h7⟩ := hR
  refine ⟨h1, fun p hp => ?_, fun p hp => ?_, h4, fun p hp => by rw [e1 p hp]; exact h5 p hp, fun p hp => by rw [e2 p hp]; exact h6 p hp, h7⟩
  · rw [h2 p hp]
    unfold cx
    split
    · rename_i q
      rw [e1 p q]
    · rfl
  · rw [h3 p hp]
    unfold cx
    split
    · rename_i q
      rw [e2 p q]
    · rfl
theorem bm_even {n : Nat} : ∀ (N : Nat) {m : MM}, gm n m → cntF (bm m) n ≤ N → ∃ e, cntF (bm m) n = 2 * e := by
  intro N
  induction N with
  | zero =>
    intro m _ h
    exact ⟨0, by omega⟩
  | succ N ih =>
    intro m hg h
    cases e : fnd n 0 (bm m) with
    | none => exact ⟨0, cntF_0 (fun i hi => fnd_none.mp e i (by omega) hi)⟩
    | some a =>
      obtain ⟨-, ha, hb, -⟩ := fnd_some e
      cases hm : m a with
      | none =>
        unfold bm at hb
        simp [hm] at hb
      | some b =>
        obtain ⟨hbn, hba, hmb⟩ := hg a ha b hm
        have bmb : bm m b = true := by unfold bm; simp [hmb]
        have e1 := cntF_set (bm m) a hb ha
        have e2 := cntF_set (fun i => bm m i && !decide (i = a)) b (by simp [bmb, hba]) hbn
        have e3 : cntF (bm (unb m a b)) n = cntF (fun i => (bm m i && !decide (i = a)) && !decide (i = b)) n := cntF_congr (fun i _ => by
          unfold bm unb
          by_cases q1 : i = b
          · simp [q1]
          · by_cases q2 : i = a
            · simp [q1, q2]
            · simp [q1, q2])
        obtain ⟨x, hx⟩ := ih (gm_unb hg ha hm) (by omega)
        exact ⟨x + 1, by omega⟩
def lst : Option (Nat × Nat) → Int32
  | none => nI 2147483647
  | some z => nI z.1
section C
variable {I : mj_I} {L : mj_L} {P : mj_P} {Q : mj_Q} {d n r t a b : Nat} {A : AS} {w : WT} {c h c' h' : Nat → Nat} {m : MM} {al : Nat → Nat → Int32}
theorem GV.go {p N k0 : Nat} (hG : GV w c h k0 I) : GO w c h p N k0 I := fun j hj x y hx hy hxy _ => hG j hj x y hx hy hxy
/-- figured anew with another sock of p -/
theorem c_33t {N k0 p : Nat} (hP : PS t P) (hW : CT w I) (hR : CW w.n 32 33 34 c' h' m I) (hp : p < w.n) (hN : N ≤ 8) (hNk : N ≤ k0) (hk0 : k0 ≤ 8) (h48 : I 48 4 = nI k0) (hO : GO w c h p N k0 I) (ag : ∀ x, x ≠ p → c' x = c x ∧ h' x = h x) (k : ∀ I', Eqf (frm [13, 15, 49] []) I I' → GO w c h p N k0 I' → GV w c' h' N I' → Q (.inl none) (107, I', L, P)) : mj_ev (d + 4) 33 [.ref 48, .int (nI p), .int (nI N)] (107, I, L, P) Q := by
  refine c_33 hP hW hR hp hN hk0 h48 (fun I' e same new => ?_)
  have hO' : GO w c h p N k0 I' := fun j hj x y hx hy hxy hq => by
    rw [same j x y hx hy hxy (hq.imp id (fun q => by omega)) (by omega)]
    exact hO j hj x y hx hy hxy hq
  refine k I' e hO' (fun j hj x y hx hy hxy => ?_)
  by_cases hxp : x = p ∨ y = p
  · exact new j x y hj (by omega) hx hy hxy hxp
  · have nx : x ≠ p := fun e => hxp (Or.inl e)
    have ny : y ≠ p := fun e => hxp (Or.inr e)
    rw [hO' j (by omega) x y hx hy hxy (Or.inl ⟨nx, ny⟩)]
    exact (alk_off (ag x nx).1 (ag y ny).1 (hu_at (ag x nx).2 j) (hu_at (ag y ny).2 j)).symm
/-- as it was -/
theorem c_33r {N k0 p : Nat} (hP : PS t P) (hW : CT w I) (hR : CW w.n 32 33 34 c h m I) (hp : p < w.n) (hN : N ≤ 8) (hNk : N ≤ k0) (hk0 : k0 ≤ 8) (h48 : I 48 4 = nI k0) (hO : GO w c h p N k0 I) (k : ∀ I', Eqf (frm [13, 15, 49] []) I I' → GV w c h k0 I' → Q (.inl none) (107, I', L, P)) : mj_ev (d + 4) 33 [.ref 48, .int (nI p), .int (nI N)] (107, I, L, P) Q := by
  refine c_33t hP hW hR hp hN hNk hk0 h48 hO (fun _ _ => ⟨rfl, rfl⟩) (fun I' e hO' hG' => k I' e (fun j hj x y hx hy hxy => ?_))
  by_cases hq : N ≤ j
  · exact hO' j hj x y hx hy hxy (Or.inr hq)
  · exact hG' j (by omega) x y hx hy hxy
theorem CS.tr {I1 I' : mj_I} {k1 : Nat} (hS : CS A I1) (e : Eqf (frm [13, 15, 49, 54] [(53, 4)]) I1 I') (h48 : I1 48 4 = nI k1) (hk1 : k1 ≤ 8) (hG : GV A.w A.c A.h k1 I') : CS A I' := by
  obtain ⟨hB, hO, hK, hU, hZ, hD⟩ := hS
  exact ⟨hB.fm e (by intro c hc j; simp only [List.mem_cons, List.not_mem_nil, or_false] at hc; rcases hc with rfl | rfl | rfl | rfl <;> rfl) (by intro q hq; simp only [List.mem_cons, List.not_mem_nil, or_false] at hq; subst hq; rfl), ⟨k1, hk1, (e 48 4 rfl).trans h48, hG⟩, hK.fr (e 51 4 rfl) (funext fun j => e 52 j rfl), hU.fr (e 55 1 rfl) (funext fun j => e 56 j rfl) (funext fun j => e 57 j rfl) (fun k h1 h8 hk => ⟨k, h1, h8, (e 48 4 rfl).trans hk⟩), hZ.fr (e 60 1 rfl) (e 60 2 rfl) (funext fun j => e 62 j rfl) (funext fun j => e 63 j rfl), hD.fr (fun j => e 65 j rfl) (funext fun j => e 66 j rfl)⟩
theorem CT.f6 {I' : mj_I} (hW : CT w I) (e : Eqf (frm [13, 15, 32, 33, 49, 54] [(53, 4)]) I I') : CT w I' := hW.fr e ⟨rfl, rfl, rfl, rfl, rfl, rfl⟩ (fun _ => rfl) (fun _ _ => ⟨rfl, rfl, rfl, rfl⟩)
/-- socks as they were, all else too -/
theorem f6_back {I' : mj_I} (e : Eqf (frm [13, 15, 32, 33, 49, 54] [(53, 4)]) I I') (e2 : ∀ j, I' 32 j = I 32 j ∧ I' 33 j = I 33 j) : Eqf (frm [13, 15, 49, 54] [(53, 4)]) I I' := by
  intro cc j q
  by_cases h1 : cc = 32
  · subst h1
    exact (e2 j).1
  · by_cases h2 : cc = 33
    · subst h2
      exact (e2 j).2
    · refine e cc j ?_
      unfold frm at q ⊢
      simp only [List.any_cons, List.any_nil, Bool.or_false, Bool.or_eq_false_iff] at q ⊢
      obtain ⟨⟨q1, q2, q3, q4⟩, q5⟩ := q
      exact ⟨⟨q1, q2, by simp [h1], by simp [h2], q3, q4⟩, q5⟩
set_option maxHeartbeats 1000000 in
theorem c_130 {x : Nat} (hP : PS t P) (hS : CS A I) (ha : a < A.w.n) (hb : b < A.w.n) (hx : x ≤ 1) (k : ∀ I', Eqf (frm [13, 15, 49, 54] [(48, 4), (53, 4)]) I I' → CS A I' → Q (.inl (some (.int (mI ((wayS A.w A.c A.h A.m a b).map (fun z => if x = 0 then z.1 else z.2)))))) (107, I', L, P)) : mj_ev (d + 11) 130 [.ref 0, .int (nI a), .int (nI b), .int (nI x)] (107, I, L, P) Q := by
  refine ⟨rfl, ?_⟩
  have hB := hS.cb
  have hn10 := hB.n10
  obtain ⟨k0, hk0, h48, hG⟩ := hS.2.1
  have o1 := hB.cw.col ha
  have o2 := hB.cw.hol ha
  have c10 := hB.cw.c10 ha
  have h10 := hB.cw.h10 ha
  have main : ∀ I1 k1, k1 ≤ 8 → 1 ≤ k1 → Eqf (frm [13, 15, 49] [(48, 4)]) I I1 → I1 48 4 = nI k1 → GV A.w A.c A.h k1 I1 → CS A I1 → ∀ X, X ≤ 10 → ∀ (acc : Option (Nat × Nat)) I' c' h' x9 x10, (∀ z, acc = some z → z.1 ≤ 100 ∧ z.2 ≤ 200) → Eqf (frm [13, 15, 32, 33, 49, 54] [(53, 4)]) I1 I' → (∀ j, j ≠ a → I' 32 j = I1 32 j ∧ I' 33 j = I1 33 j) → CW A.w.n 32 33 34 c' h' A.m I' → (∀ i, i ≠ a → c' i = A.c i ∧ h' i = A.h i) → GO A.w A.c A.h a 1 k1 I' → fld 10 X (fun acc x => fld (A.h a + 1) 0 (wayF A.w A.c A.h A.m a b x) acc) acc = wayS A.w A.c A.h A.m a b → mj_run (mj_ev (d + 10)) k130 Q (k130 41) [some (.ref 0), some (.int (nI a)), some (.int (nI b)), some (.int (nI x)), some (.int (nI (A.c a))), some (.int (nI (A.h a))), some (.int (lst acc)), some (.int (mI (acc.map (·.2)))), some (.int (nI X)), x9, x10] [] (107, I', L, P) 0 0 := by
    intro I1 k1 k18 k11 e1 j48 hG1 hS1
    refine loop_up ?_ (fun X hX ih => ?_)
    · intro acc I' c' h' x9 x10 hz e' sm' hR' ag hO hf
      rw [fld_end (Nat.le_refl _)] at hf
      subst hf
      have e2 : Eqf (frm [13, 15, 32, 33, 49, 54] [(53, 4)]) I1 (mj_upI (mj_upI I' 32 a (nI (A.c a))) 33 a (nI (A.h a))) := (e'.up rfl).up rfl
      have b32 : ∀ j, mj_upI (mj_upI I' 32 a (nI (A.c a))) 33 a (nI (A.h a)) 32 j = I1 32 j ∧ mj_upI (mj_upI I' 32 a (nI (A.c a))) 33 a (nI (A.h a)) 33 j = I1 33 j := fun j => by
        by_cases e : j = a
        · subst e
          rw [upI_c (by decide), upI_s, upI_s]
          exact ⟨(hS1.cb.cw.col ha).symm, (hS1.cb.cw.hol ha).symm⟩
        · rw [upI_c (by decide), upI_j e, upI_j e, upI_c (by decide)]
          exact sm' j e
      have e3 := f6_back e2 b32
      have hR3 : CW A.w.n 32 33 34 A.c A.h A.m (mj_upI (mj_upI I' 32 a (nI (A.c a))) 33 a (nI (A.h a))) := hS1.cb.cw.fr (funext fun j => (b32 j).1) (funext fun j => (b32 j).2) (funext fun j => e3 34 j rfl)
      have fin : ∀ I4, Eqf (frm [13, 15, 49] []) (mj_upI (mj_upI I' 32 a (nI (A.c a))) 33 a (nI (A.h a))) I4 → GV A.w A.c A.h k1 I4 → Eqf (frm [13, 15, 49, 54] [(48, 4), (53, 4)]) I I4 ∧ CS A I4 := fun I4 e4 hG4 => ⟨(e1.to rfl rfl).tr ((e3.tr (e4.to rfl rfl)).to rfl rfl), hS1.tr (e3.tr (e4.to rfl rfl)) j48 k18 hG4⟩
      cases hw : wayS A.w A.c A.h A.m a b with
      | none =>
        rw [hw] at k
        obtain rfl | rfl : x = 0 ∨ x = 1 := by omega
        · refine q_3 rfl ?_
          refine q_0 ?_
          refine q_geN (by omega) (by omega) (fun hh => ?_) (fun hh => absurd hh (by omega))
          refine q_5 rfl ?_
          refine q_33 rfl (by decide) (hP _ _ _ rfl) ?_
          refine q_33 rfl (by decide) (hP _ _ _ rfl) ?_
          refine q_3 rfl ?_
          refine q_3 rfl ?_
          refine q_42 _ rfl (by decide) rfl (by show _ < 10; omega) (by decide) ?_
          refine q_5 rfl ?_
          refine q_33 rfl (by decide) (hP _ _ _ rfl) ?_
          refine q_33 rfl (by decide) (hP _ _ _ rfl) ?_
          refine q_3 rfl ?_
          refine q_3 rfl ?_
          refine q_42 _ rfl (by decide) rfl (by show _ < 10; omega) (by decide) ?_
          refine q_5 rfl ?_
          refine q_33 rfl (by decide) (hP _ _ _ rfl) ?_
          refine q_3 rfl ?_
          refine q_0 ?_
          refine q_47 (mj_ev_mono _) [_, _] rfl rfl rfl (by decide) rfl rfl rfl ?_
          refine c_33r (N := 1) hP (hS1.cb.ct.f6 e2) hR3 ha (by omega) k11 k18 ((e3 48 4 rfl).trans j48) hO (fun I4 e4 hG4 => ?_)
          obtain ⟨f1, f2⟩ := fin I4 e4 hG4
          refine q_3 rfl ?_
          first | refine q_neN0 (by omega) (fun hh => absurd hh (by omega)) (fun hh => ?_) | refine q_neI0 (fun hh => absurd hh (by omega)) (fun hh => ?_)
          refine q_3 rfl ?_
          refine q_1 ?_
          refine q_eqI (fun _ => ?_) (fun z => absurd rfl z)
          refine q_3 rfl ?_
          refine q_26 ?_
          exact k I4 f1 f2
        · refine q_3 rfl ?_
          refine q_0 ?_
          refine q_geN (by omega) (by omega) (fun hh => ?_) (fun hh => absurd hh (by omega))
          refine q_5 rfl ?_
          refine q_33 rfl (by decide) (hP _ _ _ rfl) ?_
          refine q_33 rfl (by decide) (hP _ _ _ rfl) ?_
          refine q_3 rfl ?_
          refine q_3 rfl ?_
          refine q_42 _ rfl (by decide) rfl (by show _ < 10; omega) (by decide) ?_
          refine q_5 rfl ?_
          refine q_33 rfl (by decide) (hP _ _ _ rfl) ?_
          refine q_33 rfl (by decide) (hP _ _ _ rfl) ?_
          refine q_3 rfl ?_
          refine q_3 rfl ?_
          refine q_42 _ rfl (by decide) rfl (by show _ < 10; omega) (by decide) ?_
          refine q_5 rfl ?_
          refine q_33 rfl (by decide) (hP _ _ _ rfl) ?_
          refine q_3 rfl ?_
          refine q_0 ?_
          refine q_47 (mj_ev_mono _) [_, _] rfl rfl rfl (by decide) rfl rfl rfl ?_
          refine c_33r (N := 1) hP (hS1.cb.ct.f6 e2) hR3 ha (by omega) k11 k18 ((e3 48 4 rfl).trans j48) hO (fun I4 e4 hG4 => ?_)
          obtain ⟨f1, f2⟩ := fin I4 e4 hG4
          refine q_3 rfl ?_
          first | refine q_neN0 (by omega) (fun hh => ?_) (fun hh => absurd hh (by omega)) | refine q_neI0 (fun hh => ?_) (fun hh => absurd (by omega) hh)
          refine q_3 rfl ?_
          refine q_26 ?_
          exact k I4 f1 f2
      | some z =>
        have hz' := hz z hw
        rw [hw] at k
        obtain rfl | rfl : x = 0 ∨ x = 1 := by omega
        · refine q_3 rfl ?_
          refine q_0 ?_
          refine q_geN (by omega) (by omega) (fun hh => ?_) (fun hh => absurd hh (by omega))
          refine q_5 rfl ?_
          refine q_33 rfl (by decide) (hP _ _ _ rfl) ?_
          refine q_33 rfl (by decide) (hP _ _ _ rfl) ?_
          refine q_3 rfl ?_
          refine q_3 rfl ?_
          refine q_42 _ rfl (by decide) rfl (by show _ < 10; omega) (by decide) ?_
          refine q_5 rfl ?_
          refine q_33 rfl (by decide) (hP _ _ _ rfl) ?_
          refine q_33 rfl (by decide) (hP _ _ _ rfl) ?_
          refine q_3 rfl ?_
          refine q_3 rfl ?_
          refine q_42 _ rfl (by decide) rfl (by show _ < 10; omega) (by decide) ?_
          refine q_5 rfl ?_
          refine q_33 rfl (by decide) (hP _ _ _ rfl) ?_
          refine q_3 rfl ?_
          refine q_0 ?_
          refine q_47 (mj_ev_mono _) [_, _] rfl rfl rfl (by decide) rfl rfl rfl ?_
          refine c_33r (N := 1) hP (hS1.cb.ct.f6 e2) hR3 ha (by omega) k11 k18 ((e3 48 4 rfl).trans j48) hO (fun I4 e4 hG4 => ?_)
          obtain ⟨f1, f2⟩ := fin I4 e4 hG4
          refine q_3 rfl ?_
          first | refine q_neN0 (by omega) (fun hh => absurd hh (by omega)) (fun hh => ?_) | refine q_neI0 (fun hh => absurd hh (by omega)) (fun hh => ?_)
          refine q_3 rfl ?_
          refine q_1 ?_
          refine q_eqI (fun y => absurd y (mI_ne (show z.2 < 2 ^ 31 by omega))) (fun _ => ?_)
          refine q_3 rfl ?_
          refine q_23 ?_
          refine q_26 ?_
          exact k I4 f1 f2
        · refine q_3 rfl ?_
          refine q_0 ?_
          refine q_geN (by omega) (by omega) (fun hh => ?_) (fun hh => absurd hh (by omega))
          refine q_5 rfl ?_
          refine q_33 rfl (by decide) (hP _ _ _ rfl) ?_
          refine q_33 rfl (by decide) (hP _ _ _ rfl) ?_
          refine q_3 rfl ?_
          refine q_3 rfl ?_
          refine q_42 _ rfl (by decide) rfl (by show _ < 10; omega) (by decide) ?_
          refine q_5 rfl ?_
          refine q_33 rfl (by decide) (hP _ _ _ rfl) ?_
          refine q_33 rfl (by decide) (hP _ _ _ rfl) ?_
          refine q_3 rfl ?_
          refine q_3 rfl ?_
          refine q_42 _ rfl (by decide) rfl (by show _ < 10; omega) (by decide) ?_
          refine q_5 rfl ?_
          refine q_33 rfl (by decide) (hP _ _ _ rfl) ?_
          refine q_3 rfl ?_
          refine q_0 ?_
          refine q_47 (mj_ev_mono _) [_, _] rfl rfl rfl (by decide) rfl rfl rfl ?_
          refine c_33r (N := 1) hP (hS1.cb.ct.f6 e2) hR3 ha (by omega) k11 k18 ((e3 48 4 rfl).trans j48) hO (fun I4 e4 hG4 => ?_)
          obtain ⟨f1, f2⟩ := fin I4 e4 hG4
          refine q_3 rfl ?_
          first | refine q_neN0 (by omega) (fun hh => ?_) (fun hh => absurd hh (by omega)) | refine q_neI0 (fun hh => ?_) (fun hh => absurd (by omega) hh)
          refine q_3 rfl ?_
          refine q_26 ?_
          exact k I4 f1 f2
    · have L51 : ∀ y, y ≤ A.h a + 1 → ∀ (acc : Option (Nat × Nat)) I' c' h' x10, (∀ z, acc = some z → z.1 ≤ 100 ∧ z.2 ≤ 200) → Eqf (frm [13, 15, 32, 33, 49, 54] [(53, 4)]) I1 I' → (∀ j, j ≠ a → I' 32 j = I1 32 j ∧ I' 33 j = I1 33 j) → CW A.w.n 32 33 34 c' h' A.m I' → (∀ i, i ≠ a → c' i = A.c i ∧ h' i = A.h i) → GO A.w A.c A.h a 1 k1 I' → fld 10 (X + 1) (fun acc x => fld (A.h a + 1) 0 (wayF A.w A.c A.h A.m a b x) acc) (fld (A.h a + 1) y (wayF A.w A.c A.h A.m a b X) acc) = wayS A.w A.c A.h A.m a b → mj_run (mj_ev (d + 10)) k130 Q (k130 51) [some (.ref 0), some (.int (nI a)), some (.int (nI b)), some (.int (nI x)), some (.int (nI (A.c a))), some (.int (nI (A.h a))), some (.int (lst acc)), some (.int (mI (acc.map (·.2)))), some (.int (nI X)), some (.int (nI y)), x10] [] (107, I', L, P) 0 0 := by
        refine loop_up ?_ (fun y hy ih2 => ?_)
        · intro acc I' c' h' x10 hz e' sm' hR' ag hO hf
          rw [fld_end (Nat.le_refl _)] at hf
          refine q_3 rfl ?_
          refine q_3 rfl ?_
          refine q_gtN (by omega) (by omega) (fun hh => ?_) (fun hh => absurd hh (by omega))
          first | refine q_inc rfl rfl rfl ?_ | refine q_9 rfl rfl rfl ?_
          refine q_23 ?_
          exact ih acc I' c' h' _ _ hz e' sm' hR' ag hO hf
        · intro acc I' c' h' x10 hz e' sm' hR' ag hO hf
          rw [fld_step hy] at hf
          have J : ∀ K, K = (if X = A.c a then 0 else 3) → mj_run (mj_ev (d + 10)) k130 Q (k130 72) [some (.ref 0), some (.int (nI a)), some (.int (nI b)), some (.int (nI x)), some (.int (nI (A.c a))), some (.int (nI (A.h a))), some (.int (lst acc)), some (.int (mI (acc.map (·.2)))), some (.int (nI X)), some (.int (nI y)), x10] [.int (nI K), .int (nI y)] (107, I', L, P) 0 0 := by
            intro K hK
            have K3 : K ≤ 3 := by rw [hK]; split <;> omega
            have wno : ¬ ((acc = none ∨ ∃ z, acc = some z ∧ K + y < z.1) ∧ bal A.w.n (alk A.w (fun i => if i = a then X else A.c i) (fun i => if i = a then A.h a - y else A.h i)) A.w.n A.m a = some b) → wayF A.w A.c A.h A.m a b X acc y = acc := fun q => by
              rw [hK] at q
              exact if_neg q
            have wyes : ((acc = none ∨ ∃ z, acc = some z ∧ K + y < z.1) ∧ bal A.w.n (alk A.w (fun i => if i = a then X else A.c i) (fun i => if i = a then A.h a - y else A.h i)) A.w.n A.m a = some b) → wayF A.w A.c A.h A.m a b X acc y = some (K + y, 10 * X + y) := fun q => by
              rw [hK] at q ⊢
              exact if_pos q
            by_cases hgo : acc = none ∨ ∃ z, acc = some z ∧ K + y < z.1
            · have hlt : ∀ z, acc = some z → K + y < z.1 := fun z e => hgo.elim (fun q => by rw [q] at e; cases e) (fun ⟨z2, q1, q2⟩ => by rw [q1] at e; cases e; exact q2)
              have go79 : ∀ v, lst acc = v → (¬ v ≤ nI (K + y)) := fun v e q => by
                cases hac : acc with
                | none =>
                  rw [hac] at e
                  subst e
                  have := (nI_leI (a := 2147483647) (b := K + y) (by omega) (by omega)).mp q
                  omega
                | some z =>
                  rw [hac] at e
                  subst e
                  have h1 := hlt z hac
                  have h2 := hz z hac
                  have := (nI_leI (a := z.1) (b := K + y) (by omega) (by omega)).mp q
                  omega
              have hR1 : CW A.w.n 32 33 34 (fun i => if i = a then X else A.c i) (fun i => if i = a then A.h a - y else A.h i) A.m (mj_upI (mj_upI I' 32 a (nI X)) 33 a (nI (A.h a - y))) := by
                have q1 := hR'.cs (I' := mj_upI I' 32 a (nI X)) ha hX upI_s (fun p hp => upI_j hp) rfl rfl
                have q2 := q1.hs (I' := mj_upI (mj_upI I' 32 a (nI X)) 33 a (nI (A.h a - y))) (v := A.h a - y) ha (by omega) upI_s (fun p hp => upI_j hp) rfl rfl
                refine q2.cg (fun p hp => ?_) (fun p hp => ?_)
                · by_cases e : p = a
                  · rw [if_pos e, if_pos e]
                  · rw [if_neg e, if_neg e]
                    exact (ag p e).1.symm
                · by_cases e : p = a
                  · rw [if_pos e, if_pos e]
                  · rw [if_neg e, if_neg e]
                    exact (ag p e).2.symm
              have e2 : Eqf (frm [13, 15, 32, 33, 49, 54] [(53, 4)]) I1 (mj_upI (mj_upI I' 32 a (nI X)) 33 a (nI (A.h a - y))) := (e'.up rfl).up rfl
              have s2 : ∀ j, j ≠ a → mj_upI (mj_upI I' 32 a (nI X)) 33 a (nI (A.h a - y)) 32 j = I1 32 j ∧ mj_upI (mj_upI I' 32 a (nI X)) 33 a (nI (A.h a - y)) 33 j = I1 33 j := fun j e => by
                rw [upI_c (by decide), upI_j e, upI_j e, upI_c (by decide)]
                exact sm' j e
              have ag2 : ∀ i, i ≠ a → (fun i => if i = a then X else A.c i) i = A.c i ∧ (fun i => if i = a then A.h a - y else A.h i) i = A.h i := fun i e => ⟨if_neg e, if_neg e⟩
              first | refine q_add ?_ | refine q_11 rfl ?_
              rw [Nat.add_comm y K]
              refine q_6 rfl rfl rfl ?_
              refine q_3 rfl ?_
              refine q_3 rfl ?_
              refine q_geI (fun z => absurd z (go79 _ rfl)) (fun _ => ?_)
              refine q_5 rfl ?_
              refine q_33 rfl (by decide) (hP _ _ _ rfl) ?_
              refine q_33 rfl (by decide) (hP _ _ _ rfl) ?_
              refine q_3 rfl ?_
              refine q_3 rfl ?_
              refine q_42 _ rfl (by decide) rfl (by show _ < 10; omega) (by decide) ?_
              refine q_5 rfl ?_
              refine q_33 rfl (by decide) (hP _ _ _ rfl) ?_
              refine q_33 rfl (by decide) (hP _ _ _ rfl) ?_
              refine q_3 rfl ?_
              refine q_3 rfl ?_
              refine q_3 rfl ?_
              first | refine q_sub (by omega) ?_ | refine q_11 rfl ?_
              refine q_42 _ rfl (by decide) rfl (by show _ < 10; omega) (by decide) ?_
              refine q_5 rfl ?_
              refine q_33 rfl (by decide) (hP _ _ _ rfl) ?_
              refine q_3 rfl ?_
              refine q_0 ?_
              refine q_47 (mj_ev_mono _) [_, _] rfl rfl rfl (by decide) rfl rfl rfl ?_
              refine c_33t (N := 1) hP (hS1.cb.ct.f6 e2) hR1 ha (by omega) k11 k18 ((e2 48 4 rfl).trans j48) hO ag2 (fun I4 e4 hO4 hG4 => ?_)
              have E4 : Eqf (frm [13, 15, 32, 33, 49, 54] [(53, 4)]) I1 I4 := e2.tr (e4.to rfl rfl)
              have hR4 := hR1.fr (I' := I4) (funext fun j => e4 32 j rfl) (funext fun j => e4 33 j rfl) (funext fun j => e4 34 j rfl)
              refine q_5 rfl ?_
              refine q_33 rfl (by decide) (hP _ _ _ rfl) ?_
              refine q_3 rfl ?_
              refine q_47 (mj_ev_mono _) [_] rfl rfl rfl (by decide) rfl rfl rfl ?_
              refine cb_20 (k0 := 1) hP (hS1.cb.ct.f6 E4).hn hR4 ha hG4 (by omega) (fun I5 e5 => ?_)
              have E5 : Eqf (frm [13, 15, 32, 33, 49, 54] [(53, 4)]) I1 I5 := E4.tr (e5.to rfl rfl)
              have hR5 := hR4.fr (I' := I5) (funext fun j => e5 32 j rfl) (funext fun j => e5 33 j rfl) (funext fun j => e5 34 j rfl)
              have s5 : ∀ j, j ≠ a → I5 32 j = I1 32 j ∧ I5 33 j = I1 33 j := fun j e => ⟨((e5 32 j rfl).trans (e4 32 j rfl)).trans (s2 j e).1, ((e5 33 j rfl).trans (e4 33 j rfl)).trans (s2 j e).2⟩
              have hO5 : GO A.w A.c A.h a 1 k1 I5 := fun j hj x y hx hy hxy hq => (e5 49 _ rfl).trans (hO4 j hj x y hx hy hxy hq)
              have m5 : ∀ q, bal A.w.n (alk A.w (fun i => if i = a then X else A.c i) (fun i => if i = a then A.h a - y else A.h i)) A.w.n A.m a = some q → q < 2 ^ 31 := fun q e => by
                have := (gm_bal _ hB.cw.gm a ha q e).1
                omega
              refine q_3 rfl ?_
              refine q_neI (fun h2 => ?_) (fun h2 => ?_)
              · first | refine q_inc rfl rfl rfl ?_ | refine q_9 rfl rfl rfl ?_
                refine q_23 ?_
                first | (rw [wno (fun q => h2 (by rw [q.2]; rfl))] at hf; exact ih2 acc I5 _ _ _ hz E5 s5 hR5 ag2 hO5 hf) | (rw [wyes ⟨hgo, (mI_inj m5 (m' := some b) (fun q e => by cases e; omega)).mp (Classical.not_not.mp h2)⟩] at hf; exact ih2 (some (K + y, 10 * X + y)) I5 _ _ _ (fun z e => by cases e; exact ⟨by show K + y ≤ 100; omega, by show 10 * X + y ≤ 200; omega⟩) E5 s5 hR5 ag2 hO5 hf)
              · refine q_3 rfl ?_
                refine q_6 rfl rfl rfl ?_
                refine q_0 ?_
                refine q_3 rfl ?_
                first | refine q_mul ?_ | refine q_11 rfl ?_
                refine q_3 rfl ?_
                first | refine q_add ?_ | refine q_11 rfl ?_
                refine q_6 rfl rfl rfl ?_
                first | refine q_inc rfl rfl rfl ?_ | refine q_9 rfl rfl rfl ?_
                refine q_23 ?_
                first | (rw [wno (fun q => h2 (by rw [q.2]; rfl))] at hf; exact ih2 acc I5 _ _ _ hz E5 s5 hR5 ag2 hO5 hf) | (rw [wyes ⟨hgo, (mI_inj m5 (m' := some b) (fun q e => by cases e; omega)).mp (Classical.not_not.mp h2)⟩] at hf; exact ih2 (some (K + y, 10 * X + y)) I5 _ _ _ (fun z e => by cases e; exact ⟨by show K + y ≤ 100; omega, by show 10 * X + y ≤ 200; omega⟩) E5 s5 hR5 ag2 hO5 hf)
            · rw [wno (fun q => hgo q.1)] at hf
              cases hac : acc with
              | none => exact absurd (Or.inl hac) hgo
              | some z =>
                have hz' := hz z hac
                have hge : z.1 ≤ K + y := Nat.not_lt.mp (fun q => hgo (Or.inr ⟨z, hac, q⟩))
                rw [hac] at hf
                first | refine q_add ?_ | refine q_11 rfl ?_
                rw [Nat.add_comm y K]
                refine q_6 rfl rfl rfl ?_
                refine q_3 rfl ?_
                refine q_3 rfl ?_
                refine q_geI (fun _ => ?_) (fun q => absurd ((nI_leI (a := z.1) (b := K + y) (by omega) (by omega)).mpr hge) q)
                first | refine q_inc rfl rfl rfl ?_ | refine q_9 rfl rfl rfl ?_
                refine q_23 ?_
                exact ih2 (some z) I' c' h' _ (by rw [← hac]; exact hz) e' sm' hR' ag hO hf
          by_cases hXc : X = A.c a
          · refine q_3 rfl ?_
            refine q_3 rfl ?_
            refine q_gtN (by omega) (by omega) (fun hh => absurd hh (by omega)) (fun hh => ?_)
            refine q_3 rfl ?_
            refine q_3 rfl ?_
            refine q_3 rfl ?_
            refine q_neN (by omega) (by omega) (fun hh => absurd hh (by omega)) (fun hh => ?_)
            refine q_0 ?_
            refine q_23 ?_
            exact J 0 (if_pos hXc).symm
          · refine q_3 rfl ?_
            refine q_3 rfl ?_
            refine q_gtN (by omega) (by omega) (fun hh => absurd hh (by omega)) (fun hh => ?_)
            refine q_3 rfl ?_
            refine q_3 rfl ?_
            refine q_3 rfl ?_
            refine q_neN (by omega) (by omega) (fun hh => ?_) (fun hh => absurd hh (by omega))
            refine q_0 ?_
            exact J 3 (if_neg hXc).symm
      intro acc I' c' h' x9 x10 hz e' sm' hR' ag hO hf
      rw [fld_step hX] at hf
      refine q_3 rfl ?_
      refine q_0 ?_
      refine q_geN (by omega) (by omega) (fun hh => absurd hh (by omega)) (fun hh => ?_)
      refine q_0 ?_
      refine q_6 rfl rfl rfl ?_
      exact L51 0 (by omega) acc I' c' h' _ hz e' sm' hR' ag hO hf
  show mj_run (mj_ev (d + 10)) k130 Q (k130 0) [some (.ref 0), some (.int (nI a)), some (.int (nI b)), some (.int (nI x)), none, none, none, none, none, none, none] [] (107, I, L, P) 0 0
  refine q_5 rfl ?_
  refine q_33 rfl (by decide) (hP _ _ _ rfl) ?_
  refine q_33 rfl (by decide) (hP _ _ _ rfl) ?_
  refine q_3 rfl ?_
  first | refine q_38E _ rfl (by decide) rfl (by show _ < 10; omega) (by decide) (o1) ?_ | refine q_38 _ rfl (by decide) rfl (by show _ < 10; omega) (by decide) ?_
  refine q_6 rfl rfl rfl ?_
  refine q_5 rfl ?_
  refine q_33 rfl (by decide) (hP _ _ _ rfl) ?_
  refine q_33 rfl (by decide) (hP _ _ _ rfl) ?_
  refine q_3 rfl ?_
  first | refine q_38E _ rfl (by decide) rfl (by show _ < 10; omega) (by decide) (o2) ?_ | refine q_38 _ rfl (by decide) rfl (by show _ < 10; omega) (by decide) ?_
  refine q_6 rfl rfl rfl ?_
  refine q_0 ?_
  refine q_6 rfl rfl rfl ?_
  refine q_1 ?_
  refine q_6 rfl rfl rfl ?_
  refine q_5 rfl ?_
  refine q_33 rfl (by decide) (hP _ _ _ rfl) ?_
  refine q_0 ?_
  refine q_47 (mj_ev_mono _) [_] rfl rfl rfl (by decide) rfl rfl rfl ?_
  refine c_32 hP hB.ct hB.cw (by omega) hk0 h48 hG (fun I1 k1 g1 g2 g3 g4 e1 j48 hG1 => ?_)
  have hS1 := hS.r1 g1 g2 h48 hk0 e1 j48 hG1
  refine q_0 ?_
  refine q_6 rfl rfl rfl ?_
  exact main I1 k1 g1 (g3 (by omega)) e1 j48 hG1 hS1 0 (by omega) none I1 A.c A.h _ _ (fun z e => by cases e) Eqf.rf (fun _ _ => ⟨rfl, rfl⟩) hS1.cb.cw (fun _ _ => ⟨rfl, rfl⟩) hG1.go rfl
theorem c_129 {x : Nat} (hP : PS t P) (hS : CS A I) (ha : a < A.w.n) (hb : b < A.w.n) (hx : x ≤ 1) (k : kC Q I L P A (.inl (some (.int (mI (if a = b ∨ A.m a ≠ none ∨ A.m b ≠ none then none else (wayS A.w A.c A.h A.m a b).map (fun z => if x = 0 then z.1 else z.2))))))) : mj_ev (d + 12) 129 [.ref 0, .int (nI a), .int (nI b), .int (nI x)] (107, I, L, P) Q := by
  refine ⟨rfl, ?_⟩
  have hn := hS.cb.hn
  have hn10 := hS.cb.n10
  show mj_run (mj_ev (d + 11)) k129 Q (k129 0) [some (.ref 0), some (.int (nI a)), some (.int (nI b)), some (.int (nI x))] [] (107, I, L, P) 3 18
  by_cases hr : a = b ∨ A.m a ≠ none ∨ A.m b ≠ none
  · rw [if_pos hr] at k
    refine q_5 rfl ?_
    refine q_3 rfl ?_
    refine q_47 (mj_ev_mono _) [_] rfl rfl rfl (by decide) rfl rfl rfl ?_
    first | refine c_149T hP hn hn10 ha ?_ | refine c_149T hP hn hn10 hb ?_
    refine q_5 rfl ?_
    refine q_3 rfl ?_
    refine q_47 (mj_ev_mono _) [_] rfl rfl rfl (by decide) rfl rfl rfl ?_
    first | refine c_149T hP hn hn10 ha ?_ | refine c_149T hP hn hn10 hb ?_
    refine q_3 rfl ?_
    refine q_0 ?_
    refine q_48 (mj_ev_mono _) [_, _] rfl rfl rfl rfl rfl ?_
    refine c_150T hx (by omega) ?_
    refine q_5 rfl ?_
    refine q_3 rfl ?_
    refine q_3 rfl ?_
    refine q_47 (mj_ev_mono _) [_, _] rfl rfl rfl (by decide) rfl rfl rfl ?_
    refine c_155F hP hS ha hb hr ?_
    first | refine q_neN0 (by omega) (fun hh => absurd hh (by omega)) (fun hh => ?_) | refine q_neI0 (fun hh => absurd hh (by omega)) (fun hh => ?_)
    refine q_1 ?_
    refine q_26 ?_
    exact k.same hS rfl
  · rw [if_neg hr] at k
    have h1 : a ≠ b := fun e => hr (Or.inl e)
    have h2 : A.m a = none := Classical.byContradiction fun e => hr (Or.inr (Or.inl e))
    have h3 : A.m b = none := Classical.byContradiction fun e => hr (Or.inr (Or.inr e))
    refine q_5 rfl ?_
    refine q_3 rfl ?_
    refine q_47 (mj_ev_mono _) [_] rfl rfl rfl (by decide) rfl rfl rfl ?_
    first | refine c_149T hP hn hn10 ha ?_ | refine c_149T hP hn hn10 hb ?_
    refine q_5 rfl ?_
    refine q_3 rfl ?_
    refine q_47 (mj_ev_mono _) [_] rfl rfl rfl (by decide) rfl rfl rfl ?_
    first | refine c_149T hP hn hn10 ha ?_ | refine c_149T hP hn hn10 hb ?_
    refine q_3 rfl ?_
    refine q_0 ?_
    refine q_48 (mj_ev_mono _) [_, _] rfl rfl rfl rfl rfl ?_
    refine c_150T hx (by omega) ?_
    refine q_5 rfl ?_
    refine q_3 rfl ?_
    refine q_3 rfl ?_
    refine q_47 (mj_ev_mono _) [_, _] rfl rfl rfl (by decide) rfl rfl rfl ?_
    refine c_155T hP hS ha hb h1 h2 h3 ?_
    first | refine q_neN0 (by omega) (fun hh => ?_) (fun hh => absurd hh (by omega)) | refine q_neI0 (fun hh => ?_) (fun hh => absurd (by omega) hh)
    refine q_5 rfl ?_
    refine q_3 rfl ?_
    refine q_3 rfl ?_
    refine q_3 rfl ?_
    refine q_47 (mj_ev_mono _) [_, _, _] rfl rfl rfl (by decide) rfl rfl rfl ?_
    refine c_130 (d := d) hP hS ha hb hx (fun I1 e1 hS1 => ?_)
    refine q_26 ?_
    exact k.fm e1 hS1 rfl rfl
theorem c_153r {N : Nat} (hP : PS t P) (hS : CS A I) (hN : N < 1000) (k : ∀ I' k1, Eqf (frm [13, 15, 49, 52] [(48, 4), (51, 4)]) I I' → CS A I' → k1 ≤ 8 → (N ≤ 8 → N ≤ k1) → (8 ≤ N → k1 = 8) → I' 48 4 = nI k1 → GV A.w A.c A.h k1 I' → (N ≤ 8 → ∀ j, j ≤ N → ∀ p, p < A.w.n → I' 52 (10 * j + p) = mI ((many A.w A.c (A.h, A.m) j).2 p)) → Q (.inl (some (.ref 51))) (107, I', L, P)) : mj_ev (d + 5) 153 [.ref 0, .int (nI N)] (107, I, L, P) Q := by
  refine ⟨rfl, ?_⟩
  obtain ⟨hB, ⟨k0, hk0, h48, hG⟩, hK, hU, hZ, hD⟩ := hS
  show mj_run (mj_ev (d + 4)) k153 Q (k153 0) [some (.ref 0), some (.int (nI N))] [] (107, I, L, P) 0 0
  refine q_5 rfl ?_
  refine q_33 rfl (by decide) (hP _ _ _ rfl) ?_
  refine q_3 rfl ?_
  refine q_47 (mj_ev_mono _) [_] rfl rfl rfl (by decide) rfl rfl rfl ?_
  refine c_32 hP hB.ct hB.cw hN hk0 h48 hG (fun I1 k1 g1 g2 g3 g4 e1 j48 hG1 => ?_)
  refine q_5 rfl ?_
  refine q_33 rfl (by decide) (hP _ _ _ rfl) ?_
  refine q_3 rfl ?_
  refine q_47 (mj_ev_mono _) [_] rfl rfl rfl (by decide) rfl rfl rfl ?_
  refine ca_21 (w := A.w) (c := A.c) (h := A.h) (m := A.m) (k0 := k1) hP ((e1 3 0 rfl).trans hB.hn) (hB.cw.f49 e1) hN hG1 g1 ((Nat.lt_or_ge N 8).elim (fun q => Or.inl (g3 (by omega))) (fun q => Or.inr (g4 q))) (hK.imp (fun q => (e1 51 4 rfl).trans q) (fun ⟨k2, q1, q2, q3⟩ => ⟨k2, q1, (e1 51 4 rfl).trans q2, fun j hj p hp => (e1 52 _ rfl).trans (q3 j hj p hp)⟩)) (fun I2 k2 f1 f2 f3 e2 j51 hK2 => ?_)
  refine q_5 rfl ?_
  refine q_33 rfl (by decide) (hP _ _ _ rfl) ?_
  refine q_29 ?_
  have hG2 : GV A.w A.c A.h k1 I2 := fun j hj a b ha hb hab => (e2 49 _ rfl).trans (hG1 j hj a b ha hb hab)
  refine k I2 k1 ((e1.to rfl rfl).tr (e2.to rfl rfl)) ⟨?_, ⟨k1, g1, (e2 48 4 rfl).trans j48, hG2⟩, Or.inr ⟨k2, f1, j51, hK2⟩, ?_, ?_, ?_⟩ g1 g3 g4 ((e2 48 4 rfl).trans j48) hG2 (fun q j hj p hp => hK2 j (by have := f2 q; omega) p hp)
  · exact hB.fm ((e1.to (cs' := [13, 15, 49, 52]) (fs' := [(48, 4), (51, 4)]) rfl rfl).tr (e2.to rfl rfl)) (by intro c hc j; simp only [List.mem_cons, List.not_mem_nil, or_false] at hc; rcases hc with rfl | rfl | rfl | rfl <;> rfl) (by intro q hq; simp only [List.mem_cons, List.not_mem_nil, or_false] at hq; rcases hq with rfl | rfl <;> rfl)
  · exact hU.fr ((e2 55 1 rfl).trans (e1 55 1 rfl)) (funext fun j => (e2 56 j rfl).trans (e1 56 j rfl)) (funext fun j => (e2 57 j rfl).trans (e1 57 j rfl)) (fun k h1 h8 hk => ⟨k1, by have := (nI_eq (by omega) (by omega)).mp (h48.symm.trans hk); omega, g1, (e2 48 4 rfl).trans j48⟩)
  · exact hZ.fr ((e2 60 1 rfl).trans (e1 60 1 rfl)) ((e2 60 2 rfl).trans (e1 60 2 rfl)) (funext fun j => (e2 62 j rfl).trans (e1 62 j rfl)) (funext fun j => (e2 63 j rfl).trans (e1 63 j rfl))
  · exact hD.fr (fun j => (e2 65 j rfl).trans (e1 65 j rfl)) (funext fun j => (e2 66 j rfl).trans (e1 66 j rfl))
theorem c_132 (hP : PS t P) (hS : CS A I) (k : kC Q I L P A (.inl (some (.int (mI (drn A.w A.c (A.h, A.m)).1))))) : mj_ev (d + 12) 132 [.ref 0] (107, I, L, P) Q := by
  refine ⟨rfl, ?_⟩
  have hn10 := hS.cb.n10
  have hh10 : ∀ p, p < A.w.n → A.h p < 10 := fun p hp => hS.cb.cw.h10 hp
  have even : ∀ h', ∃ e, bmk A.w A.c (h', A.m) 5 = 2 * e := fun h' => bm_even _ (many_gm hS.cb.cw.gm 5) (Nat.le_refl _)
  have main : ∀ I1 k1, k1 ≤ 8 → 5 ≤ k1 → Eqf (frm [13, 15, 49, 52] [(48, 4), (51, 4)]) I I1 → ∀ i, i ≤ A.w.n → ∀ (acc : Option Nat × Nat) I' x4 x5, CS A I' → I' 48 4 = nI k1 → GV A.w A.c A.h k1 I' → Eqf (frm [13, 15, 49, 54] [(53, 4)]) I1 I' → bmk A.w A.c (A.h, A.m) 5 ≤ acc.2 → acc.2 ≤ 10 → (∃ e, acc.2 = 2 * e) → fld A.w.n i (drnF A.w A.c (A.h, A.m)) acc = drn A.w A.c (A.h, A.m) → mj_run (mj_ev (d + 11)) k132 Q (k132 14) [some (.ref 0), some (.int (nI (acc.2 / 2))), some (.int (mI acc.1)), some (.int (nI i)), x4, x5] [] (107, I', L, P) 0 0 := by
    intro I1 k1 k18 k15 e1
    refine loop_up ?_ (fun i hi ih => ?_)
    · intro acc I' x4 x5 hS' h48 hG e' hlow h10 hev hf
      rw [fld_end (Nat.le_refl _)] at hf
      subst hf
      have hn := hS'.cb.hn
      refine q_3 rfl ?_
      refine q_5 rfl ?_
      refine q_33 rfl (by decide) (hP _ _ _ rfl) ?_
      first | refine q_31E rfl (by decide) hn ?_ | refine q_31 rfl (by decide) ?_
      refine q_geN (by omega) (by omega) (fun hh => ?_) (fun hh => absurd hh (by omega))
      refine q_3 rfl ?_
      refine q_26 ?_
      exact k.fm (cs := [13, 15, 49, 52, 54]) (fs := [(48, 4), (51, 4), (53, 4)]) ((e1.to rfl rfl).tr (e'.to rfl rfl)) hS' rfl rfl
    · intro acc I' x4 x5 hS' h48 hG e' hlow h10 hev hf
      obtain ⟨q, v⟩ := acc
      rw [fld_step hi] at hf
      have hn := hS'.cb.hn
      have r1 := hS'.cb.cw.hol hi
      have z1 := hh10 i hi
      have hlow' : bmk A.w A.c (A.h, A.m) 5 ≤ v := hlow
      have h10' : v ≤ 10 := h10
      obtain ⟨ev, hev'⟩ := hev
      have hev2 : v = 2 * ev := hev'
      by_cases h0 : A.h i = 0
      · have eh : (fun x => if x = i then 0 else (A.h, A.m).1 x) = A.h := by
          funext x
          by_cases e : x = i
          · rw [if_pos e, e, h0]
          · exact if_neg e
        rw [show drnF A.w A.c (A.h, A.m) (q, v) i = (q, v) from if_neg (by
          show ¬ v < bmk A.w A.c (fun x => if x = i then 0 else (A.h, A.m).1 x, A.m) 5
          rw [eh]
          omega)] at hf
        rw [h0] at r1
        refine q_3 rfl ?_
        refine q_5 rfl ?_
        refine q_33 rfl (by decide) (hP _ _ _ rfl) ?_
        first | refine q_31E rfl (by decide) hn ?_ | refine q_31 rfl (by decide) ?_
        refine q_geN (by omega) (by omega) (fun hh => absurd hh (by omega)) (fun hh => ?_)
        refine q_5 rfl ?_
        refine q_33 rfl (by decide) (hP _ _ _ rfl) ?_
        refine q_33 rfl (by decide) (hP _ _ _ rfl) ?_
        refine q_3 rfl ?_
        first | refine q_38E _ rfl (by decide) rfl (by show _ < 10; omega) (by decide) (r1) ?_ | refine q_38 _ rfl (by decide) rfl (by show _ < 10; omega) (by decide) ?_
        refine q_6 rfl rfl rfl ?_
        refine q_3 rfl ?_
        first | refine q_leN0 (by omega) (fun hh => ?_) (fun hh => absurd hh (by omega)) | refine q_leI0 (fun hh => ?_) (fun hh => absurd (by omega) hh)
        first | refine q_inc rfl rfl rfl ?_ | refine q_9 rfl rfl rfl ?_
        refine q_23 ?_
        exact ih (q, v) I' _ _ hS' h48 hG e' hlow h10 ⟨ev, hev'⟩ hf
      · have hR1 := hS'.cb.cw.hs (I' := mj_upI I' 33 i (nI 0)) (v := 0) hi (by omega) upI_s (fun p hp => upI_j hp) rfl rfl
        have e2 : Eqf (frm [13, 15, 32, 33, 49, 54] [(53, 4)]) I' (mj_upI I' 33 i (nI 0)) := Eqf.rf.up rfl
        have bn : ∀ h', bmk A.w A.c (h', A.m) 5 ≤ 10 := fun h' => Nat.le_trans (cntF_le _ _) hn10
        obtain ⟨e5, he5⟩ := even (fun x => if x = i then 0 else A.h x)
        have b5 := bn (fun x => if x = i then 0 else A.h x)
        have back : ∀ I5, Eqf (frm [13, 15, 32, 33, 49, 54] [(53, 4)]) I' I5 → (∀ j, j ≠ i → I5 33 j = I' 33 j) → I5 32 = I' 32 → GO A.w A.c A.h i 5 k1 I5 → ∀ Q5 : mj_Q, (∀ I6, CS A I6 → I6 48 4 = nI k1 → GV A.w A.c A.h k1 I6 → Eqf (frm [13, 15, 49, 54] [(53, 4)]) I' I6 → Q5 (.inl none) (107, I6, L, P)) → mj_ev (d + 11) 33 [.ref 48, .int (nI i), .int (nI 5)] (107, mj_upI I5 33 i (nI (A.h i)), L, P) Q5 := by
          intro I5 E5 s33 s32 hO5 Q5 k5
          have b32 : ∀ j, mj_upI I5 33 i (nI (A.h i)) 32 j = I' 32 j ∧ mj_upI I5 33 i (nI (A.h i)) 33 j = I' 33 j := fun j => by
            refine ⟨by rw [upI_c (by decide), s32], ?_⟩
            by_cases e : j = i
            · subst e
              rw [upI_s]
              exact r1.symm
            · rw [upI_j e]
              exact s33 j e
          have e6 := f6_back (E5.up (k := 33) (j := i) (v := nI (A.h i)) rfl) b32
          have hR6 : CW A.w.n 32 33 34 A.c A.h A.m (mj_upI I5 33 i (nI (A.h i))) := hS'.cb.cw.fr (funext fun j => (b32 j).1) (funext fun j => (b32 j).2) (funext fun j => e6 34 j rfl)
          exact c_33r (d := d + 7) (N := 5) hP (hS'.cb.ct.f6 (E5.up (k := 33) (j := i) (v := nI (A.h i)) rfl)) hR6 hi (by omega) k15 k18 ((e6 48 4 rfl).trans h48) hO5 (fun I7 e7 hG7 => k5 I7 (hS'.tr (e6.tr (e7.to rfl rfl)) h48 k18 hG7) ((e7 48 4 rfl).trans ((e6 48 4 rfl).trans h48)) hG7 (e6.tr (e7.to rfl rfl)))
        refine q_3 rfl ?_
        refine q_5 rfl ?_
        refine q_33 rfl (by decide) (hP _ _ _ rfl) ?_
        first | refine q_31E rfl (by decide) hn ?_ | refine q_31 rfl (by decide) ?_
        refine q_geN (by omega) (by omega) (fun hh => absurd hh (by omega)) (fun hh => ?_)
        refine q_5 rfl ?_
        refine q_33 rfl (by decide) (hP _ _ _ rfl) ?_
        refine q_33 rfl (by decide) (hP _ _ _ rfl) ?_
        refine q_3 rfl ?_
        first | refine q_38E _ rfl (by decide) rfl (by show _ < 10; omega) (by decide) (r1) ?_ | refine q_38 _ rfl (by decide) rfl (by show _ < 10; omega) (by decide) ?_
        refine q_6 rfl rfl rfl ?_
        refine q_3 rfl ?_
        first | refine q_leN0 (by omega) (fun hh => absurd hh (by omega)) (fun hh => ?_) | refine q_leI0 (fun hh => absurd hh (by omega)) (fun hh => ?_)
        refine q_5 rfl ?_
        refine q_33 rfl (by decide) (hP _ _ _ rfl) ?_
        refine q_33 rfl (by decide) (hP _ _ _ rfl) ?_
        refine q_3 rfl ?_
        refine q_0 ?_
        refine q_42 _ rfl (by decide) rfl (by show _ < 10; omega) (by decide) ?_
        refine q_5 rfl ?_
        refine q_33 rfl (by decide) (hP _ _ _ rfl) ?_
        refine q_3 rfl ?_
        refine q_0 ?_
        refine q_47 (mj_ev_mono _) [_, _] rfl rfl rfl (by decide) rfl rfl rfl ?_
        refine c_33t (N := 5) (c := A.c) (h := A.h) hP (hS'.cb.ct.f6 e2) hR1 hi (by omega) k15 k18 h48 hG.go (fun x e => ⟨rfl, if_neg e⟩) (fun I4 e4 hO4 hG4 => ?_)
        have E4 : Eqf (frm [13, 15, 32, 33, 49, 54] [(53, 4)]) I' I4 := e2.tr (e4.to rfl rfl)
        have hR4 := hR1.fr (I' := I4) (funext fun j => e4 32 j rfl) (funext fun j => e4 33 j rfl) (funext fun j => e4 34 j rfl)
        refine q_5 rfl ?_
        refine q_33 rfl (by decide) (hP _ _ _ rfl) ?_
        refine q_47 (mj_ev_mono _) [] rfl rfl rfl (by decide) rfl rfl rfl ?_
        refine cb_15 ?_
        have E4b : Eqf (frm [13, 15, 32, 33, 49, 54] [(53, 4)]) I' (mj_upI I4 53 4 (-(nI 1))) := E4.up rfl
        refine q_5 rfl ?_
        refine q_33 rfl (by decide) (hP _ _ _ rfl) ?_
        refine q_0 ?_
        refine q_47 (mj_ev_mono _) [_] rfl rfl rfl (by decide) rfl rfl rfl ?_
        refine cb_21 (w := A.w) (c := A.c) (h := fun x => if x = i then 0 else A.h x) (m := A.m) (N := 5) (k0 := 5) hP (hS'.cb.ct.f6 E4b).hn (hR4.fr rfl rfl rfl) (by omega) (fun j hj x y hx hy hxy => hG4 j hj x y hx hy hxy) (by omega) (by omega) (Or.inl upI_s) (fun I5 k2 g1 g2 g3 e5' j53 hK5 => ?_)
        have E5 : Eqf (frm [13, 15, 32, 33, 49, 54] [(53, 4)]) I' I5 := E4b.tr (e5'.to rfl rfl)
        refine q_5 rfl ?_
        refine q_33 rfl (by decide) (hP _ _ _ rfl) ?_
        refine q_0 ?_
        refine q_47 (mj_ev_mono _) [_] rfl rfl rfl (by decide) rfl rfl rfl ?_
        refine cb_18 (w := A.w) (c := A.c) (h := fun x => if x = i then 0 else A.h x) (m := A.m) hP (hS'.cb.ct.f6 E5).hn hn10 (by omega) (fun p hp _ => hK5 5 (g2 (by omega)) p hp) hS'.cb.cw.gm (fun p hp => by show (if p = i then 0 else A.h p) < 10; split <;> first | omega | exact hh10 p hp) ?_
        have s33 : ∀ j, j ≠ i → I5 33 j = I' 33 j := fun j e => by rw [e5' 33 j rfl, upI_c (by decide), e4 33 j rfl, upI_j e]
        have s32 : I5 32 = I' 32 := funext fun j => by rw [e5' 32 j rfl, upI_c (by decide), e4 32 j rfl, upI_c (by decide)]
        have hO5 : GO A.w A.c A.h i 5 k1 I5 := fun j hj x y hx hy hxy hq => (e5' 49 _ rfl).trans (hO4 j hj x y hx hy hxy hq)
        refine q_6 rfl rfl rfl ?_
        refine q_3 rfl ?_
        refine q_3 rfl ?_
        refine q_leN (by omega) (by omega) (fun h2 => ?_) (fun h2 => ?_)
        · refine q_5 rfl ?_
          refine q_33 rfl (by decide) (hP _ _ _ rfl) ?_
          refine q_33 rfl (by decide) (hP _ _ _ rfl) ?_
          refine q_3 rfl ?_
          refine q_3 rfl ?_
          refine q_42 _ rfl (by decide) rfl (by show _ < 10; omega) (by decide) ?_
          refine q_5 rfl ?_
          refine q_33 rfl (by decide) (hP _ _ _ rfl) ?_
          refine q_3 rfl ?_
          refine q_0 ?_
          refine q_47 (mj_ev_mono _) [_, _] rfl rfl rfl (by decide) rfl rfl rfl ?_
          refine back I5 E5 s33 s32 hO5 _ (fun I6 hS6 j6 hG6 e6 => ?_)
          first | refine q_inc rfl rfl rfl ?_ | refine q_9 rfl rfl rfl ?_
          refine q_23 ?_
          first | (rw [show drnF A.w A.c (A.h, A.m) (q, v) i = (q, v) from if_neg (by show ¬ v < bmk A.w A.c (fun x => if x = i then 0 else A.h x, A.m) 5; omega)] at hf; exact ih (q, v) I6 _ _ hS6 j6 hG6 (e'.tr e6) hlow h10 ⟨ev, hev'⟩ hf) | (rw [show drnF A.w A.c (A.h, A.m) (q, v) i = (some i, bmk A.w A.c (fun x => if x = i then 0 else A.h x, A.m) 5) from if_pos (by show v < bmk A.w A.c (fun x => if x = i then 0 else A.h x, A.m) 5; omega)] at hf; exact ih (some i, bmk A.w A.c (fun x => if x = i then 0 else A.h x, A.m) 5) I6 _ _ hS6 j6 hG6 (e'.tr e6) (by show _ ≤ bmk A.w A.c (fun x => if x = i then 0 else A.h x, A.m) 5; omega) b5 ⟨e5, he5⟩ hf)
        · refine q_3 rfl ?_
          refine q_6 rfl rfl rfl ?_
          refine q_3 rfl ?_
          refine q_6 rfl rfl rfl ?_
          refine q_5 rfl ?_
          refine q_33 rfl (by decide) (hP _ _ _ rfl) ?_
          refine q_33 rfl (by decide) (hP _ _ _ rfl) ?_
          refine q_3 rfl ?_
          refine q_3 rfl ?_
          refine q_42 _ rfl (by decide) rfl (by show _ < 10; omega) (by decide) ?_
          refine q_5 rfl ?_
          refine q_33 rfl (by decide) (hP _ _ _ rfl) ?_
          refine q_3 rfl ?_
          refine q_0 ?_
          refine q_47 (mj_ev_mono _) [_, _] rfl rfl rfl (by decide) rfl rfl rfl ?_
          refine back I5 E5 s33 s32 hO5 _ (fun I6 hS6 j6 hG6 e6 => ?_)
          first | refine q_inc rfl rfl rfl ?_ | refine q_9 rfl rfl rfl ?_
          refine q_23 ?_
          first | (rw [show drnF A.w A.c (A.h, A.m) (q, v) i = (q, v) from if_neg (by show ¬ v < bmk A.w A.c (fun x => if x = i then 0 else A.h x, A.m) 5; omega)] at hf; exact ih (q, v) I6 _ _ hS6 j6 hG6 (e'.tr e6) hlow h10 ⟨ev, hev'⟩ hf) | (rw [show drnF A.w A.c (A.h, A.m) (q, v) i = (some i, bmk A.w A.c (fun x => if x = i then 0 else A.h x, A.m) 5) from if_pos (by show v < bmk A.w A.c (fun x => if x = i then 0 else A.h x, A.m) 5; omega)] at hf; exact ih (some i, bmk A.w A.c (fun x => if x = i then 0 else A.h x, A.m) 5) I6 _ _ hS6 j6 hG6 (e'.tr e6) (by show _ ≤ bmk A.w A.c (fun x => if x = i then 0 else A.h x, A.m) 5; omega) b5 ⟨e5, he5⟩ hf)
  show mj_run (mj_ev (d + 11)) k132 Q (k132 0) [some (.ref 0), none, none, none, none, none] [] (107, I, L, P) 0 0
  refine q_5 rfl ?_
  refine q_0 ?_
  refine q_47 (mj_ev_mono _) [_] rfl rfl rfl (by decide) rfl rfl rfl ?_
  refine c_153r hP hS (by omega) (fun I1 k1 e1 hS1 g1 g3 g4 j48 hG1 hK1 => ?_)
  refine q_0 ?_
  refine q_47 (mj_ev_mono _) [_] rfl rfl rfl (by decide) rfl rfl rfl ?_
  refine ca_18 (w := A.w) (c := A.c) (h := A.h) (m := A.m) hP hS1.cb.hn hn10 (by omega) (fun p hp _ => hK1 (by omega) 5 (by omega) p hp) hS1.cb.cw.gm hh10 ?_
  refine q_6 rfl rfl rfl ?_
  refine q_1 ?_
  refine q_6 rfl rfl rfl ?_
  refine q_0 ?_
  refine q_6 rfl rfl rfl ?_
  exact main I1 k1 g1 (g3 (by omega)) e1 0 (by omega) (none, bmk A.w A.c (A.h, A.m) 5) I1 _ _ hS1 j48 hG1 Eqf.rf (Nat.le_refl _) (Nat.le_trans (cntF_le _ _) hn10) (even A.h) rfl
end C
