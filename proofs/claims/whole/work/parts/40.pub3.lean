/-! the model: knitting, the basket, games -/
def FK (n c j : Nat) : Bool := FM c j || ((c == 74 || c == 75 || c == 76) && j == n) || (c == 89 && (j == 1 + n || j == 12 + n))
theorem FK_ne {n c j : Nat} (h : j ≠ n) (h1 : j ≠ 1 + n) (h2 : j ≠ 12 + n) : FK n c j = FM c j := by
  unfold FK
  rw [show (j == n) = false by simp [h], show (j == 1 + n) = false by simp [h1], show (j == 12 + n) = false by simp [h2]]
  simp
theorem FK_lo {n c j : Nat} (h : c < 73) : FK n c j = false := by
  unfold FK
  rw [FM_lo h]
  have h1 : (c == 89) = false := by simp; omega
  have h2 : (c == 74) = false := by simp; omega
  have h3 : (c == 75) = false := by simp; omega
  have h4 : (c == 76) = false := by simp; omega
  rw [h1, h2, h3, h4]
  rfl
theorem FK_c {n c j : Nat} (h1 : (c == 74) = false) (h2 : (c == 75) = false) (h3 : (c == 76) = false) (h4 : (c == 89) = false) (h5 : FM c j = false) : FK n c j = false := by
  unfold FK
  rw [h1, h2, h3, h4, h5]
  rfl
theorem FK_n {n c j : Nat} (h : c = 74 ∨ c = 75 ∨ c = 76) (hj : j < n) : FK n c j = false := by
  unfold FK
  rw [show (j == n) = false by simp; omega]
  rcases h with rfl | rfl | rfl <;> rfl
theorem FK_89 {n j : Nat} (h : j < 33) (h1 : j ≠ 1 + n) (h2 : j ≠ 12 + n) : FK n 89 j = false := by
  unfold FK
  rw [FM_89 h, show (j == 1 + n) = false by simp [h1], show (j == 12 + n) = false by simp [h2]]
  rfl
theorem FM_FK {n : Nat} {I I' : mj_I} (e : Eqf FM I I') : Eqf (FK n) I I' := e.mono (fun c j q => by
  unfold FK at q
  rw [Bool.or_eq_false_iff, Bool.or_eq_false_iff] at q
  exact q.1.1)
theorem MT.kn {w : WT} {I I' : mj_I} (h : MT w I) (e : Eqf (FK w.n) I I') : MT w I' := by
  obtain ⟨h0, h1, h2, h3, h4⟩ := h
  have e8 : I' 78 = I 78 := funext fun j => e 78 j (FK_c rfl rfl rfl rfl rfl)
  refine ⟨h0, (e _ _ (FK_c rfl rfl rfl rfl rfl)).trans h1, fun p hp => ?_, ?_, ?_⟩
  · obtain ⟨q1, q2, q3, q4⟩ := h2 p hp
    exact ⟨(e _ _ (FK_n (by simp) hp)).trans q1, (e _ _ (FK_n (by simp) hp)).trans q2, (e _ _ (FK_n (by simp) hp)).trans q3, (e _ _ (FK_c rfl rfl rfl rfl rfl)).trans q4⟩
  · rw [e8, e 73 2 (FK_c rfl rfl rfl rfl rfl)]
    exact h3
  · rw [e8, e 73 3 (FK_c rfl rfl rfl rfl rfl)]
    exact h4
theorem RW.kn {n : Nat} {c h : Nat → Nat} {m : MM} {I I' : mj_I} (hR : RW n 0 c h m I) (e : Eqf (FK n) I I') : RW n 0 c h m I' := by
  have hn := hR.n10
  exact ⟨hn, fun p hp => (e _ _ (FK_89 (by omega) (by omega) (by omega))).trans (hR.col hp), fun p hp => (e _ _ (FK_89 (by omega) (by omega) (by omega))).trans (hR.hol hp), fun p hp => (e _ _ (FK_89 (by omega) (by omega) (by omega))).trans (hR.mat hp), hR.2.2.2.2⟩
theorem MS.kn {A : AS} {I I' : mj_I} {L : mj_L} (h : MS A I L) (e : Eqf (FK A.w.n) I I') : MS A I' L := by
  have hR := h.rw.kn e
  have hT := h.mt.kn e
  obtain ⟨h1, h2, h3, h4, h5, h6, h7, h8, h9, h10, h11⟩ := h
  have e9 : I' 90 = I 90 := funext fun j => e 90 j (FK_c rfl rfl rfl rfl rfl)
  have e10 : I' 100 = I 100 := funext fun j => e 100 j (FK_c rfl rfl rfl rfl rfl)
  have e3 : I' 103 = I 103 := funext fun j => e 103 j (FK_c rfl rfl rfl rfl rfl)
  have e4 : I' 104 = I 104 := funext fun j => e 104 j (FK_c rfl rfl rfl rfl rfl)
  have e5 : I' 105 = I 105 := funext fun j => e 105 j (FK_c rfl rfl rfl rfl rfl)
  refine ⟨hT, ⟨⟨(e 89 0 (FK_89 (by omega) (by omega) (by omega))).trans h2.1.1, hR⟩, ?_⟩, ?_, (e 73 10 (FK_c rfl rfl rfl rfl rfl)).trans h4, h5, fun j hj => ⟨(e 79 j (FK_c rfl rfl rfl rfl rfl)).trans (h6 j hj).1, (h6 j hj).2⟩, (e 73 12 (FK_c rfl rfl rfl rfl rfl)).trans h7, h8, fun j hj => (e 80 j (FK_c rfl rfl rfl rfl rfl)).trans (h9 j hj), (e 94 0 (FK_c rfl rfl rfl rfl rfl)).trans h10, h11⟩
  · rw [e9, e10, e 73 40 (FK_c rfl rfl rfl rfl rfl), e 73 52 (FK_c rfl rfl rfl rfl rfl)]
    exact h2.2
  · rw [e 73 57 (FK_c rfl rfl rfl rfl rfl), e 73 58 (FK_c rfl rfl rfl rfl rfl), e 73 59 (FK_c rfl rfl rfl rfl rfl), e3, e4, e5]
    exact h3
def KV (n s cl pt wl : Nat) (I : mj_I) : Prop := I 74 n = nI pt ∧ I 75 n = nI wl ∧ I 76 n = nI s ∧ I 89 (1 + n) = nI cl ∧ I 89 (12 + n) = nI 0
theorem ite01 {c1 c2 : Prop} [Decidable c1] [Decidable c2] : ((if c1 then 1 else 0 : Nat) = (if c2 then 1 else 0)) ↔ (decide c1 != decide c2) = false := by
  by_cases h1 : c1 <;> by_cases h2 : c2 <;> simp [h1, h2]
section M
variable {I : mj_I} {L : mj_L} {P : mj_P} {Q : mj_Q} {d n r t a b : Nat} {A : AS} {w : WT} {c h : Nat → Nat} {m : MM}
theorem s_205k {s cl pt wl : Nat} (hP : PS t P) (hW : MT w I) (hR : RW w.n 0 c h m I) (ha : a < w.n) (hK : KV w.n s cl pt wl I) (hz : s < 100 ∧ cl < 100 ∧ pt < 100 ∧ wl < 100) (k : ∀ I', Eqf (frm [91, 92] []) I I' → Q (.inl (some (.int (alK w c h a s cl pt wl)))) (107, I', L, P)) : mj_ev (d + 4) 205 [.ref 73, .int (nI 0), .int (nI a), .int (nI w.n)] (107, I, L, P) Q := by
  refine ⟨rfl, ?_⟩
  obtain ⟨hw0, hn, hW2, hW3, hW4⟩ := hW
  have hn10 := hw0.1
  obtain ⟨e1, e2, e3, -⟩ := hW2 a ha
  obtain ⟨z1, z2, z3, z4, -⟩ := hw0.2.1 a ha
  obtain ⟨k1, k2, k3, k4, k5⟩ := hK
  have hca := hR.c10 ha
  have hha := hR.h10 ha
  have g1 := hR.hol0 ha
  show mj_run (mj_ev (d + 3)) k205 Q (k205 0) [some (.ref 73), some (.int (nI 0)), some (.int (nI a)), some (.int (nI w.n))] [] (107, I, L, P) 0 0
  refine q_5 rfl ?_
  refine q_3 rfl ?_
  refine q_3 rfl ?_
  refine q_3 rfl ?_
  refine q_5 rfl ?_
  refine q_33 rfl (by decide) (hP _ _ _ rfl) ?_
  refine q_3 rfl ?_
  refine q_0 ?_
  first | refine q_add ?_ | refine q_11 rfl ?_
  refine q_3 rfl ?_
  first | refine q_add ?_ | refine q_11 rfl ?_
  first | refine q_38E _ rfl (by decide) rfl (by show _ < 66; omega) (by decide) (g1) ?_ | refine q_38E _ rfl (by decide) rfl (by show _ < 66; omega) (by decide) (k5) ?_ | refine q_38 _ rfl (by decide) rfl (by show _ < 66; omega) (by decide) ?_
  refine q_5 rfl ?_
  refine q_33 rfl (by decide) (hP _ _ _ rfl) ?_
  refine q_3 rfl ?_
  refine q_0 ?_
  first | refine q_add ?_ | refine q_11 rfl ?_
  refine q_3 rfl ?_
  first | refine q_add ?_ | refine q_11 rfl ?_
  first | refine q_38E _ rfl (by decide) rfl (by show _ < 66; omega) (by decide) (g1) ?_ | refine q_38E _ rfl (by decide) rfl (by show _ < 66; omega) (by decide) (k5) ?_ | refine q_38 _ rfl (by decide) rfl (by show _ < 66; omega) (by decide) ?_
  refine q_47 (mj_ev_mono _) [_, _, _, _, _] rfl rfl rfl (by decide) rfl rfl rfl ?_
  refine s_204 hP (by omega) (by omega) (by omega) hW3 e1 e2 e3 (hR.col ha) k1 k2 k3 (show I 89 (0 + 1 + w.n) = nI cl from (by rw [Nat.zero_add]; exact k4)) (by omega) (by omega) (fun I' e' => ?_)
  refine q_26 ?_
  exact k I' e'
theorem s_260 {s cl pt wl : Nat} (hP : PS t P) (hW : MT w I) (hR : RW w.n 0 c h m I) (ha : a < w.n) (hK : KV w.n s cl pt wl I) (hz : s < 100 ∧ cl < 100 ∧ pt < 100 ∧ wl < 100) (k : ∀ I', Eqf (frm [91, 92] []) I I' → Q (.inl (some (.int (nI (if knf w c h a s cl pt wl then 1 else 0))))) (107, I', L, P)) : mj_ev (d + 5) 260 [.ref 73, .int (nI a)] (107, I, L, P) Q := by
  refine ⟨rfl, ?_⟩
  have hn10 := hR.n10
  have L2 : ∀ i, i ≤ w.n → ∀ I', Eqf (frm [91, 92] []) I I' → fnd w.n i (knd w c h a s cl pt wl) = fnd w.n 0 (knd w c h a s cl pt wl) → mj_run (mj_ev (d + 4)) k260 Q (k260 2) [some (.ref 73), some (.int (nI a)), some (.int (nI i))] [] (107, I', L, P) 0 0 := by
    refine loop_up ?_ (fun i hi ih => ?_)
    · intro I' e' hf
      have hn := (hW.f91 e').hn
      rw [fnd_end (Nat.le_refl _)] at hf
      refine q_3 rfl ?_
      refine q_5 rfl ?_
      first | refine q_31E rfl (by decide) hn ?_ | refine q_31 rfl (by decide) ?_
      refine q_geN (by omega) (by omega) (fun hh => ?_) (fun hh => absurd hh (by omega))
      refine q_0 ?_
      refine q_27 (by first | exact Or.inl rfl | exact Or.inr rfl | assumption | (split <;> first | exact Or.inl rfl | exact Or.inr rfl)) ?_
      exact kQ (k I' e') (by unfold knf; rw [← hf]; rfl)
    · intro I' e' hf
      have hn := (hW.f91 e').hn
      have hK' : KV w.n s cl pt wl I' := ⟨(e' _ _ rfl).trans hK.1, (e' _ _ rfl).trans hK.2.1, (e' _ _ rfl).trans hK.2.2.1, (e' _ _ rfl).trans hK.2.2.2.1, (e' _ _ rfl).trans hK.2.2.2.2⟩
      refine q_3 rfl ?_
      refine q_5 rfl ?_
      first | refine q_31E rfl (by decide) hn ?_ | refine q_31 rfl (by decide) ?_
      refine q_geN (by omega) (by omega) (fun hh => absurd hh (by omega)) (fun hh => ?_)
      refine q_5 rfl ?_
      refine q_0 ?_
      refine q_3 rfl ?_
      refine q_5 rfl ?_
      first | refine q_31E rfl (by decide) hn ?_ | refine q_31 rfl (by decide) ?_
      refine q_47 (mj_ev_mono _) [_, _, _] rfl rfl rfl (by decide) rfl rfl rfl ?_
      refine s_205k hP (hW.f91 e') (hR.f91 e') hi hK' hz (fun I2 e2 => ?_)
      first | refine q_d21_5Nn (J := 28) (by omega) (fun j => q_0 (j)) (fun j => q_0 (q_23 (j))) ?_ | refine q_d21_5Ni (J := 28) (by omega) (fun j => q_0 (j)) (fun j => q_0 (q_23 (j))) ?_ | refine q_d21_5In (J := 28) (fun j => q_0 (j)) (fun j => q_0 (q_23 (j))) ?_ | refine q_d21_5Ii (J := 28) (fun j => q_0 (j)) (fun j => q_0 (q_23 (j))) ?_
      refine q_3 rfl ?_
      refine q_3 rfl ?_
      first | refine q_d22_1Nn (J := 38) (by omega) (by omega) (fun j => q_0 (j)) (fun j => q_0 (q_23 (j))) ?_ | refine q_d22_1Ni (J := 38) (by omega) (by omega) (fun j => q_0 (j)) (fun j => q_0 (q_23 (j))) ?_ | refine q_d22_1Mn (J := 38) (by assumption) (fun j => q_0 (j)) (fun j => q_0 (q_23 (j))) ?_ | refine q_d22_1In (J := 38) (fun j => q_0 (j)) (fun j => q_0 (q_23 (j))) ?_ | refine q_d22_1Ii (J := 38) (fun j => q_0 (j)) (fun j => q_0 (q_23 (j))) ?_
      refine q_eqN (by split <;> omega) (by split <;> omega) (fun h1 => ?_) (fun h1 => ?_)
      · first | refine q_inc rfl rfl rfl ?_ | refine q_9 rfl rfl rfl ?_
        refine q_23 ?_
        rw [fnd_no hi (ite01.mp h1)] at hf
        exact ih I2 (e'.tr e2) hf
      · refine q_0 ?_
        refine q_27 (by first | exact Or.inl rfl | exact Or.inr rfl | assumption | (split <;> first | exact Or.inl rfl | exact Or.inr rfl)) ?_
        rw [fnd_yes hi (Bool.not_eq_false _ |>.mp (fun q => h1 (ite01.mpr q)))] at hf
        exact kQ (k I2 (e'.tr e2)) (by unfold knf; rw [← hf]; rfl)
  show mj_run (mj_ev (d + 4)) k260 Q (k260 0) [some (.ref 73), some (.int (nI a)), none] [] (107, I, L, P) 0 0
  refine q_0 ?_
  refine q_6 rfl rfl rfl ?_
  exact L2 0 (by omega) I Eqf.rf rfl
theorem s_261 (hP : PS t P) (hS : MS A I L) (ha : a < A.w.n) (k : kW Q I L P A 0 (some (.int (mI (knt A.w A.c A.h a))))) : mj_ev (d + 12) 261 [.ref 73, .int (nI a)] (107, I, L, P) Q := by
  refine ⟨rfl, ?_⟩
  have hS0 := hS.i0
  have hn10 := hS.n10
  have fin : ∀ (I' : mj_I) (v : Int32), Eqf (FK A.w.n) (I0 I) I' → I' 73 0 = nI 0 → v = mI (knt A.w A.c A.h a) → Q (.inl (some (.int v))) (107, I', L, P) := by
    rintro I' v e h0 rfl
    exact k I' L (hS0.kn e) (fun c j hc => (e c j (FK_lo hc)).trans (I0_fm c j (FM_lo hc))) (fun _ _ _ => rfl) h0
  have L32 : ∀ s, s ≤ 31 → 1 ≤ s → ∀ (I' : mj_I) x4, Eqf (FK A.w.n) (I0 I) I' → I' 73 0 = nI 0 → I' 89 (12 + A.w.n) = nI 0 → fnd 4800 (160 * (s - 1)) (knp A.w A.c A.h a) = fnd 4800 0 (knp A.w A.c A.h a) → mj_run (mj_ev (d + 11)) k261 Q (k261 32) [some (.ref 73), some (.int (nI a)), some (.int (nI A.w.n)), some (.int (nI s)), x4] [] (107, I', L, P) 0 0 := by
    refine loop_up ?_ (fun s hs ih => ?_)
    · intro _ I' x4 e' h0 h12 hf
      rw [fnd_end (by omega)] at hf
      refine q_3 rfl ?_
      refine q_0 ?_
      refine q_gtN (by omega) (by omega) (fun hh => ?_) (fun hh => absurd hh (by omega))
      refine q_1 ?_
      refine q_26 ?_
      exact fin I' _ e' h0 (by unfold knt; rw [← hf]; rfl)
    · intro hs1 I' x4 e' h0 h12 hf
      have L41 : ∀ x, x ≤ 160 → ∀ (I' : mj_I), Eqf (FK A.w.n) (I0 I) I' → I' 73 0 = nI 0 → I' 89 (12 + A.w.n) = nI 0 → fnd 4800 (160 * (s - 1) + x) (knp A.w A.c A.h a) = fnd 4800 0 (knp A.w A.c A.h a) → mj_run (mj_ev (d + 11)) k261 Q (k261 41) [some (.ref 73), some (.int (nI a)), some (.int (nI A.w.n)), some (.int (nI s)), some (.int (nI x))] [] (107, I', L, P) 0 0 := by
        refine loop_up ?_ (fun x hx ih2 => ?_)
        · intro I' e' h0 h12 hf
          refine q_3 rfl ?_
          refine q_0 ?_
          refine q_geN (by omega) (by omega) (fun hh => ?_) (fun hh => absurd hh (by omega))
          first | refine q_inc rfl rfl rfl ?_ | refine q_9 rfl rfl rfl ?_
          refine q_23 ?_
          exact ih (by omega) I' _ e' h0 h12 (by rw [← hf, show 160 * (s + 1 - 1) = 160 * (s - 1) + 160 by omega])
        · intro I' e' h0 h12 hf
          have E : Eqf (FK A.w.n) (I0 I) (mj_upI (mj_upI (mj_upI (mj_upI I' 76 A.w.n (nI s)) 89 (1 + A.w.n) (nI (x / 16))) 74 A.w.n (nI (x / 4 % 4))) 75 A.w.n (nI (x % 4))) := (((e'.up (by unfold FK; simp)).up (by unfold FK; simp)).up (by unfold FK; simp)).up (by unfold FK; simp)
          have hK : KV A.w.n s (x / 16) (x / 4 % 4) (x % 4) (mj_upI (mj_upI (mj_upI (mj_upI I' 76 A.w.n (nI s)) 89 (1 + A.w.n) (nI (x / 16))) 74 A.w.n (nI (x / 4 % 4))) 75 A.w.n (nI (x % 4))) := by
            refine ⟨?_, upI_s, ?_, ?_, ?_⟩
            · rw [upI_c (by decide)]
              exact upI_s
            · rw [upI_c (by decide), upI_c (by decide), upI_c (by decide)]
              exact upI_s
            · rw [upI_c (by decide), upI_c (by decide)]
              exact upI_s
            · rw [upI_c (by decide), upI_c (by decide), upI_j (by omega), upI_c (by decide)]
              exact h12
          have t1 : (160 * (s - 1) + x) / 160 + 1 = s := by omega
          have t2 : (160 * (s - 1) + x) % 160 = x := by omega
          have kp : knp A.w A.c A.h a (160 * (s - 1) + x) = knf A.w A.c A.h a s (x / 16) (x / 4 % 4) (x % 4) := by
            unfold knp
            rw [t1, t2]
          have x16 : x / 16 < 10 := by omega
          cases hk : knf A.w A.c A.h a s (x / 16) (x / 4 % 4) (x % 4) with
          | false =>
            refine q_3 rfl ?_
            refine q_0 ?_
            refine q_geN (by omega) (by omega) (fun hh => absurd hh (by omega)) (fun hh => ?_)
            refine q_5 rfl ?_
            refine q_33 rfl (by decide) (hP _ _ _ rfl) ?_
            refine q_3 rfl ?_
            refine q_3 rfl ?_
            refine q_42 _ rfl (by decide) rfl (by show _ < 11; omega) (by decide) ?_
            refine q_5 rfl ?_
            refine q_33 rfl (by decide) (hP _ _ _ rfl) ?_
            refine q_0 ?_
            refine q_3 rfl ?_
            first | refine q_add ?_ | refine q_11 rfl ?_
            refine q_3 rfl ?_
            refine q_0 ?_
            first | refine q_divN (by omega) (by omega) (by omega) ?_ | refine q_div (by assumption) ?_
            refine q_42 _ rfl (by decide) rfl (by show _ < 66; omega) (by decide) ?_
            refine q_5 rfl ?_
            refine q_33 rfl (by decide) (hP _ _ _ rfl) ?_
            refine q_3 rfl ?_
            refine q_3 rfl ?_
            refine q_0 ?_
            first | refine q_divN (by omega) (by omega) (by omega) ?_ | refine q_div (by assumption) ?_
            refine q_0 ?_
            first | refine q_remN (by omega) (by omega) (by omega) ?_ | refine q_rem (by assumption) ?_
            refine q_42 _ rfl (by decide) rfl (by show _ < 11; omega) (by decide) ?_
            refine q_5 rfl ?_
            refine q_33 rfl (by decide) (hP _ _ _ rfl) ?_
            refine q_3 rfl ?_
            refine q_3 rfl ?_
            refine q_0 ?_
            first | refine q_remN (by omega) (by omega) (by omega) ?_ | refine q_rem (by assumption) ?_
            refine q_42 _ rfl (by decide) rfl (by show _ < 11; omega) (by decide) ?_
            refine q_5 rfl ?_
            refine q_3 rfl ?_
            refine q_47 (mj_ev_mono _) [_] rfl rfl rfl (by decide) rfl rfl rfl ?_
            refine s_260 hP (hS0.mt.kn E) (hS0.rw.kn E) ha hK (by omega) (fun I2 e2 => ?_)
            rw [hk]
            first | refine q_eqN0 (by omega) (fun hh => ?_) (fun hh => absurd hh (by omega)) | refine q_eqI0 (fun hh => ?_) (fun hh => absurd (by decide) hh)
            first | refine q_inc rfl rfl rfl ?_ | refine q_9 rfl rfl rfl ?_
            refine q_23 ?_
            rw [fnd_no (by omega) (by rw [kp]; exact hk)] at hf
            exact ih2 I2 (E.tr (FM_FK (FM_91 e2))) ((e2 73 0 rfl).trans h0) ((e2 89 _ rfl).trans hK.2.2.2.2) hf
          | true =>
            refine q_3 rfl ?_
            refine q_0 ?_
            refine q_geN (by omega) (by omega) (fun hh => absurd hh (by omega)) (fun hh => ?_)
            refine q_5 rfl ?_
            refine q_33 rfl (by decide) (hP _ _ _ rfl) ?_
            refine q_3 rfl ?_
            refine q_3 rfl ?_
            refine q_42 _ rfl (by decide) rfl (by show _ < 11; omega) (by decide) ?_
            refine q_5 rfl ?_
            refine q_33 rfl (by decide) (hP _ _ _ rfl) ?_
            refine q_0 ?_
            refine q_3 rfl ?_
            first | refine q_add ?_ | refine q_11 rfl ?_
            refine q_3 rfl ?_
            refine q_0 ?_
            first | refine q_divN (by omega) (by omega) (by omega) ?_ | refine q_div (by assumption) ?_
            refine q_42 _ rfl (by decide) rfl (by show _ < 66; omega) (by decide) ?_
            refine q_5 rfl ?_
            refine q_33 rfl (by decide) (hP _ _ _ rfl) ?_
            refine q_3 rfl ?_
            refine q_3 rfl ?_
            refine q_0 ?_
            first | refine q_divN (by omega) (by omega) (by omega) ?_ | refine q_div (by assumption) ?_
            refine q_0 ?_
            first | refine q_remN (by omega) (by omega) (by omega) ?_ | refine q_rem (by assumption) ?_
            refine q_42 _ rfl (by decide) rfl (by show _ < 11; omega) (by decide) ?_
            refine q_5 rfl ?_
            refine q_33 rfl (by decide) (hP _ _ _ rfl) ?_
            refine q_3 rfl ?_
            refine q_3 rfl ?_
            refine q_0 ?_
            first | refine q_remN (by omega) (by omega) (by omega) ?_ | refine q_rem (by assumption) ?_
            refine q_42 _ rfl (by decide) rfl (by show _ < 11; omega) (by decide) ?_
            refine q_5 rfl ?_
            refine q_3 rfl ?_
            refine q_47 (mj_ev_mono _) [_] rfl rfl rfl (by decide) rfl rfl rfl ?_
            refine s_260 hP (hS0.mt.kn E) (hS0.rw.kn E) ha hK (by omega) (fun I2 e2 => ?_)
            rw [hk]
            have k1 := (e2 74 _ rfl).trans hK.1
            have k2 := (e2 75 _ rfl).trans hK.2.1
            first | refine q_eqN0 (by omega) (fun hh => absurd hh (by omega)) (fun hh => ?_) | refine q_eqI0 (fun hh => absurd hh (by decide)) (fun hh => ?_)
            refine q_0 ?_
            refine q_3 rfl ?_
            first | refine q_mul ?_ | refine q_11 rfl ?_
            refine q_0 ?_
            refine q_3 rfl ?_
            refine q_0 ?_
            first | refine q_divN (by omega) (by omega) (by omega) ?_ | refine q_div (by assumption) ?_
            first | refine q_mul ?_ | refine q_11 rfl ?_
            first | refine q_add ?_ | refine q_11 rfl ?_
            refine q_0 ?_
            refine q_5 rfl ?_
            refine q_33 rfl (by decide) (hP _ _ _ rfl) ?_
            refine q_3 rfl ?_
            first | refine q_38E _ rfl (by decide) rfl (by show _ < 11; omega) (by decide) (k1) ?_ | refine q_38 _ rfl (by decide) rfl (by show _ < 11; omega) (by decide) ?_
            first | refine q_mul ?_ | refine q_11 rfl ?_
            first | refine q_add ?_ | refine q_11 rfl ?_
            refine q_5 rfl ?_
            refine q_33 rfl (by decide) (hP _ _ _ rfl) ?_
            refine q_3 rfl ?_
            first | refine q_38E _ rfl (by decide) rfl (by show _ < 11; omega) (by decide) (k2) ?_ | refine q_38 _ rfl (by decide) rfl (by show _ < 11; omega) (by decide) ?_
            first | refine q_add ?_ | refine q_11 rfl ?_
            refine q_26 ?_
            rw [fnd_yes (by omega) (by rw [kp]; exact hk)] at hf
            exact fin I2 _ (E.tr (FM_FK (FM_91 e2))) ((e2 73 0 rfl).trans h0) (by unfold knt; rw [← hf]; show _ = nI (knr _); unfold knr; rw [t1, t2])
      refine q_3 rfl ?_
      refine q_0 ?_
      refine q_gtN (by omega) (by omega) (fun hh => absurd hh (by omega)) (fun hh => ?_)
      refine q_0 ?_
      refine q_6 rfl rfl rfl ?_
      exact L41 0 (by omega) I' e' h0 h12 hf
  have hn := hS0.hn
  show mj_run (mj_ev (d + 11)) k261 Q (k261 0) [some (.ref 73), some (.int (nI a)), none, none, none] [] (107, I, L, P) 0 0
  refine q_5 rfl ?_
  refine q_0 ?_
  refine q_34 rfl (by decide) ?_
  refine q_5 rfl ?_
  refine q_3 rfl ?_
  refine q_47 (mj_ev_mono _) [_] rfl rfl rfl (by decide) rfl rfl rfl ?_
  refine s_221T hS0.hn hS.n10 I0_th ha ?_
  first | refine q_neN0 (by omega) (fun hh => ?_) (fun hh => absurd hh (by omega)) | refine q_neI0 (fun hh => ?_) (fun hh => absurd (by omega) hh)
  refine q_5 rfl ?_
  first | refine q_31E rfl (by decide) hn ?_ | refine q_31 rfl (by decide) ?_
  refine q_6 rfl rfl rfl ?_
  refine q_5 rfl ?_
  refine q_33 rfl (by decide) (hP _ _ _ rfl) ?_
  refine q_0 ?_
  refine q_3 rfl ?_
  first | refine q_add ?_ | refine q_11 rfl ?_
  refine q_0 ?_
  refine q_42 _ rfl (by decide) rfl (by show _ < 66; omega) (by decide) ?_
  refine q_0 ?_
  refine q_6 rfl rfl rfl ?_
  exact L32 1 (by omega) (by omega) _ _ (Eqf.rf.up (by unfold FK; simp)) rfl upI_s rfl
theorem s_261F {x : Int32} (hS : MS A I L) (hx : x < 0 ∨ nI A.w.n ≤ x) (k : kM Q I L P 1 (.int (nI 0))) : mj_ev (d + 12) 261 [.ref 73, .int x] (107, I, L, P) Q := by
  refine ⟨rfl, ?_⟩
  have hS0 := hS.i0
  show mj_run (mj_ev (d + 11)) k261 Q (k261 0) [some (.ref 73), some (.int x), none, none, none] [] (107, I, L, P) 0 0
  refine q_5 rfl ?_
  refine q_0 ?_
  refine q_34 rfl (by decide) ?_
  refine q_5 rfl ?_
  refine q_3 rfl ?_
  refine q_47 (mj_ev_mono _) [_] rfl rfl rfl (by decide) rfl rfl rfl ?_
  refine s_221F hS0.hn hS.n10 I0_th hx ?_
  first | refine q_neN0 (by omega) (fun hh => absurd hh (by omega)) (fun hh => ?_) | refine q_neI0 (fun hh => absurd hh (by omega)) (fun hh => ?_)
  refine q_0 ?_
  refine q_26 ?_
  exact k.bad
theorem s_268 (ha : a < 2 ^ 31) (hb : b < 2 ^ 31) (k : Q (.inl (some (.int (nI (Nat.gcd a b))))) (107, I, L, P)) : mj_ev (d + 1) 268 [.int (nI a), .int (nI b)] (107, I, L, P) Q := by
  refine ⟨rfl, ?_⟩
  have L4 : ∀ N y x x4, y ≤ N → x < 2 ^ 31 → y < 2 ^ 31 → Nat.gcd x y = Nat.gcd a b → mj_run (mj_ev d) k268 Q (k268 4) [some (.int (nI a)), some (.int (nI b)), some (.int (nI x)), some (.int (nI y)), x4] [] (107, I, L, P) 0 0 := by
    intro N
    induction N with
    | zero =>
      intro y x x4 h1 h2 h3 h4
      obtain rfl : y = 0 := Nat.le_zero.mp h1
      refine q_3 rfl ?_
      first | refine q_eqN0 (by omega) (fun hh => ?_) (fun hh => absurd hh (by omega)) | refine q_eqI0 (fun hh => ?_) (fun hh => absurd (by omega) hh)
      refine q_3 rfl ?_
      refine q_26 ?_
      exact kQ k (by rw [← h4, Nat.gcd_zero_right])
    | succ N ih =>
      intro y x x4 h1 h2 h3 h4
      by_cases hy : y = 0
      · subst hy
        exact ih 0 x x4 (by omega) h2 h3 h4
      · have hm := Nat.mod_lt x (show 0 < y by omega)
        refine q_3 rfl ?_
        first | refine q_eqN0 (by omega) (fun hh => absurd hh (by omega)) (fun hh => ?_) | refine q_eqI0 (fun hh => absurd hh (by omega)) (fun hh => ?_)
        refine q_3 rfl ?_
        refine q_3 rfl ?_
        first | refine q_remN (by omega) (by omega) (by omega) ?_ | refine q_rem (by assumption) ?_
        refine q_6 rfl rfl rfl ?_
        refine q_3 rfl ?_
        refine q_6 rfl rfl rfl ?_
        refine q_3 rfl ?_
        refine q_6 rfl rfl rfl ?_
        refine q_23 ?_
        exact ih (x % y) y _ (by omega) h3 (by omega) (by rw [← h4, Nat.gcd_comm x y, Nat.gcd_rec y x, Nat.gcd_comm])
  show mj_run (mj_ev d) k268 Q (k268 0) [some (.int (nI a)), some (.int (nI b)), none, none, none] [] (107, I, L, P) 0 0
  refine q_3 rfl ?_
  refine q_6 rfl rfl rfl ?_
  refine q_3 rfl ?_
  refine q_6 rfl rfl rfl ?_
  exact L4 b b a _ (Nat.le_refl _) ha hb rfl
theorem s_269 (ha : a < 10) (hb : b < 10) (k : Q (.inl (some (.int (nI (lky a b))))) (107, I, L, P)) : mj_ev (d + 1) 269 [.int (nI a), .int (nI b)] (107, I, L, P) Q := by
  refine ⟨rfl, ?_⟩
  show mj_run (mj_ev d) k269 Q (k269 0) [some (.int (nI a)), some (.int (nI b)), none, none] [] (107, I, L, P) 0 0
  by_cases h0 : b = 0
  · subst h0
    refine q_3 rfl ?_
    first | refine q_neN0 (by omega) (fun hh => absurd hh (by omega)) (fun hh => ?_) | refine q_neI0 (fun hh => absurd hh (by omega)) (fun hh => ?_)
    refine q_0 ?_
    refine q_26 ?_
    exact k
  · have fin : ∀ v, fld a b (fun v i => v + 840 / i) 0 = v → Q (.inl (some (.int (nI (b * v))))) (107, I, L, P) := by
      intro v e
      refine kQ k ?_
      unfold lky
      rw [if_neg h0, e]
    have L12 : ∀ i, i ≤ a → b ≤ i → ∀ v, fld a i (fun v i => v + 840 / i) v = fld a b (fun v i => v + 840 / i) 0 → mj_run (mj_ev d) k269 Q (k269 12) [some (.int (nI a)), some (.int (nI b)), some (.int (nI v)), some (.int (nI i))] [] (107, I, L, P) 0 0 := by
      refine loop_up ?_ (fun i hi ih => ?_)
      · intro _ v hf
        rw [fld_end (Nat.le_refl _)] at hf
        refine q_3 rfl ?_
        refine q_3 rfl ?_
        refine q_geN (by omega) (by omega) (fun hh => ?_) (fun hh => absurd hh (by omega))
        refine q_3 rfl ?_
        refine q_3 rfl ?_
        first | refine q_mul ?_ | refine q_11 rfl ?_
        refine q_26 ?_
        exact fin v hf.symm
      · intro hbi v hf
        rw [fld_step hi] at hf
        refine q_3 rfl ?_
        refine q_3 rfl ?_
        refine q_geN (by omega) (by omega) (fun hh => absurd hh (by omega)) (fun hh => ?_)
        refine q_3 rfl ?_
        refine q_0 ?_
        refine q_3 rfl ?_
        first | refine q_divN (by omega) (by omega) (by omega) ?_ | refine q_div (by assumption) ?_
        first | refine q_add ?_ | refine q_11 rfl ?_
        refine q_6 rfl rfl rfl ?_
        first | refine q_inc rfl rfl rfl ?_ | refine q_9 rfl rfl rfl ?_
        refine q_23 ?_
        exact ih (by omega) _ hf
    rcases Nat.lt_or_ge a b with hab | hab
    · refine q_3 rfl ?_
      first | refine q_neN0 (by omega) (fun hh => ?_) (fun hh => absurd hh (by omega)) | refine q_neI0 (fun hh => ?_) (fun hh => absurd (by omega) hh)
      refine q_0 ?_
      refine q_6 rfl rfl rfl ?_
      refine q_3 rfl ?_
      refine q_6 rfl rfl rfl ?_
      refine q_3 rfl ?_
      refine q_3 rfl ?_
      refine q_geN (by omega) (by omega) (fun hh => ?_) (fun hh => absurd hh (by omega))
      refine q_3 rfl ?_
      refine q_3 rfl ?_
      refine q_mul ?_
      refine q_26 ?_
      exact fin 0 (fld_end (by omega))
    · refine q_3 rfl ?_
      first | refine q_neN0 (by omega) (fun hh => ?_) (fun hh => absurd hh (by omega)) | refine q_neI0 (fun hh => ?_) (fun hh => absurd (by omega) hh)
      refine q_0 ?_
      refine q_6 rfl rfl rfl ?_
      refine q_3 rfl ?_
      refine q_6 rfl rfl rfl ?_
      exact L12 b hab (Nat.le_refl _) 0 rfl
theorem s_270 {s x : Nat} (h0 : I0 I 73 0 = nI 0) (hs1 : 1 ≤ s) (hs : s ≤ 9) (hx : x ≤ 2) (k : kM Q I L P 0 (.int (nI (sBasket s x)))) : mj_ev (d + 12) 270 [.ref 73, .int (nI s), .int (nI x)] (107, I, L, P) Q := by
  refine ⟨rfl, ?_⟩
  have L36 : ∀ i, i ≤ s → 1 ≤ i → ∀ best, best < i → fld s i (fun best b => if lky s best < lky s b then b else best) best = bask s → mj_run (mj_ev (d + 11)) k270 Q (k270 36) [some (.ref 73), some (.int (nI s)), some (.int (nI x)), some (.int (nI best)), some (.int (nI i)), none, none] [] (107, I0 I, L, P) 0 0 := by
    refine loop_up ?_ (fun i hi ih => ?_)
    · intro _ best hb hf
      rw [fld_end (Nat.le_refl _)] at hf
      subst hf
      have l1 := lky_lt s (by omega) (bask s) (by omega)
      have gp : 0 < Nat.gcd (lky s (bask s)) (840 * s) := Nat.gcd_pos_of_pos_right _ (by omega)
      have gl : Nat.gcd (lky s (bask s)) (840 * s) ≤ 840 * s := Nat.le_of_dvd (by omega) (Nat.gcd_dvd_right _ _)
      obtain rfl | rfl | rfl : x = 0 ∨ x = 1 ∨ x = 2 := by omega
      · refine q_3 rfl ?_
        refine q_3 rfl ?_
        refine q_geN (by omega) (by omega) (fun hh => ?_) (fun hh => absurd hh (by omega))
        refine q_3 rfl ?_
        refine q_3 rfl ?_
        refine q_48 (mj_ev_mono _) [_, _] rfl rfl rfl rfl rfl ?_
        refine s_269 (by omega) (by omega) ?_
        refine q_6 rfl rfl rfl ?_
        refine q_0 ?_
        refine q_3 rfl ?_
        first | refine q_mul ?_ | refine q_11 rfl ?_
        refine q_6 rfl rfl rfl ?_
        refine q_3 rfl ?_
        refine q_3 rfl ?_
        refine q_48 (mj_ev_mono _) [_, _] rfl rfl rfl rfl rfl ?_
        refine s_268 (by omega) (by omega) ?_
        refine q_6 rfl rfl rfl ?_
        refine q_3 rfl ?_
        first | refine q_neN0 (by omega) (fun hh => absurd hh (by omega)) (fun hh => ?_) | refine q_neI0 (fun hh => absurd hh (by omega)) (fun hh => ?_)
        refine q_3 rfl ?_
        refine q_23 ?_
        refine q_26 ?_
        exact k.fin Eqf.rf rfl
      · refine q_3 rfl ?_
        refine q_3 rfl ?_
        refine q_geN (by omega) (by omega) (fun hh => ?_) (fun hh => absurd hh (by omega))
        refine q_3 rfl ?_
        refine q_3 rfl ?_
        refine q_48 (mj_ev_mono _) [_, _] rfl rfl rfl rfl rfl ?_
        refine s_269 (by omega) (by omega) ?_
        refine q_6 rfl rfl rfl ?_
        refine q_0 ?_
        refine q_3 rfl ?_
        first | refine q_mul ?_ | refine q_11 rfl ?_
        refine q_6 rfl rfl rfl ?_
        refine q_3 rfl ?_
        refine q_3 rfl ?_
        refine q_48 (mj_ev_mono _) [_, _] rfl rfl rfl rfl rfl ?_
        refine s_268 (by omega) (by omega) ?_
        refine q_6 rfl rfl rfl ?_
        refine q_3 rfl ?_
        first | refine q_neN0 (by omega) (fun hh => ?_) (fun hh => absurd hh (by omega)) | refine q_neI0 (fun hh => ?_) (fun hh => absurd (by omega) hh)
        refine q_3 rfl ?_
        refine q_0 ?_
        refine q_neN (by omega) (by omega) (fun hh => absurd hh (by omega)) (fun hh => ?_)
        refine q_3 rfl ?_
        refine q_3 rfl ?_
        first | refine q_divN (by omega) (by omega) (by omega) ?_ | refine q_div (by assumption) ?_
        refine q_23 ?_
        refine q_26 ?_
        exact k.fin Eqf.rf rfl
      · refine q_3 rfl ?_
        refine q_3 rfl ?_
        refine q_geN (by omega) (by omega) (fun hh => ?_) (fun hh => absurd hh (by omega))
        refine q_3 rfl ?_
        refine q_3 rfl ?_
        refine q_48 (mj_ev_mono _) [_, _] rfl rfl rfl rfl rfl ?_
        refine s_269 (by omega) (by omega) ?_
        refine q_6 rfl rfl rfl ?_
        refine q_0 ?_
        refine q_3 rfl ?_
        first | refine q_mul ?_ | refine q_11 rfl ?_
        refine q_6 rfl rfl rfl ?_
        refine q_3 rfl ?_
        refine q_3 rfl ?_
        refine q_48 (mj_ev_mono _) [_, _] rfl rfl rfl rfl rfl ?_
        refine s_268 (by omega) (by omega) ?_
        refine q_6 rfl rfl rfl ?_
        refine q_3 rfl ?_
        first | refine q_neN0 (by omega) (fun hh => ?_) (fun hh => absurd hh (by omega)) | refine q_neI0 (fun hh => ?_) (fun hh => absurd (by omega) hh)
        refine q_3 rfl ?_
        refine q_0 ?_
        refine q_neN (by omega) (by omega) (fun hh => ?_) (fun hh => absurd hh (by omega))
        refine q_3 rfl ?_
        refine q_3 rfl ?_
        first | refine q_divN (by omega) (by omega) (by omega) ?_ | refine q_div (by assumption) ?_
        refine q_26 ?_
        exact k.fin Eqf.rf rfl
    · intro hi1 best hb hf
      rw [fld_step hi] at hf
      have l1 := lky_lt s (by omega) best (by omega)
      have l2 := lky_lt s (by omega) i (by omega)
      refine q_3 rfl ?_
      refine q_3 rfl ?_
      refine q_geN (by omega) (by omega) (fun hh => absurd hh (by omega)) (fun hh => ?_)
      refine q_3 rfl ?_
      refine q_3 rfl ?_
      refine q_48 (mj_ev_mono _) [_, _] rfl rfl rfl rfl rfl ?_
      refine s_269 (by omega) (by omega) ?_
      refine q_3 rfl ?_
      refine q_3 rfl ?_
      refine q_48 (mj_ev_mono _) [_, _] rfl rfl rfl rfl rfl ?_
      refine s_269 (by omega) (by omega) ?_
      first | refine q_d22_5Nn (J := 62) (by omega) (by omega) (fun j => q_3 rfl (j)) (fun j => q_3 rfl (q_23 (j))) ?_ | refine q_d22_5Ni (J := 62) (by omega) (by omega) (fun j => q_3 rfl (j)) (fun j => q_3 rfl (q_23 (j))) ?_ | refine q_d22_5In (J := 62) (fun j => q_3 rfl (j)) (fun j => q_3 rfl (q_23 (j))) ?_ | refine q_d22_5Ii (J := 62) (fun j => q_3 rfl (j)) (fun j => q_3 rfl (q_23 (j))) ?_
      refine q_6 rfl rfl rfl ?_
      first | refine q_inc rfl rfl rfl ?_ | refine q_9 rfl rfl rfl ?_
      refine q_23 ?_
      exact ih (by omega) _ (by split <;> omega) hf
  show mj_run (mj_ev (d + 11)) k270 Q (k270 0) [some (.ref 73), some (.int (nI s)), some (.int (nI x)), none, none, none, none] [] (107, I, L, P) 0 0
  refine q_5 rfl ?_
  refine q_0 ?_
  refine q_34 rfl (by decide) ?_
  refine q_5 rfl ?_
  refine q_3 rfl ?_
  refine q_0 ?_
  refine q_47 (mj_ev_mono _) [_, _] rfl rfl rfl (by decide) rfl rfl rfl ?_
  refine s_222T I0_th hx (by omega) ?_
  first | refine q_eqN0 (by omega) (fun hh => absurd hh (by omega)) (fun hh => ?_) | refine q_eqI0 (fun hh => absurd hh (by omega)) (fun hh => ?_)
  refine q_5 rfl ?_
  refine q_3 rfl ?_
  refine q_0 ?_
  refine q_0 ?_
  refine q_48 (mj_ev_mono _) [_, _, _] rfl rfl rfl rfl rfl ?_
  refine s_164 ?_
  rw [if_neg (nI_nlt (by omega) (by omega)), if_neg (nI_nlt (by omega) (by omega))]
  refine q_0 ?_
  refine q_47 (mj_ev_mono _) [_, _] rfl rfl rfl (by decide) rfl rfl rfl ?_
  refine s_163T I0_th ?_
  first | refine q_neN0 (by omega) (fun hh => ?_) (fun hh => absurd hh (by omega)) | refine q_neI0 (fun hh => ?_) (fun hh => absurd (by omega) hh)
  refine q_0 ?_
  refine q_6 rfl rfl rfl ?_
  refine q_0 ?_
  refine q_6 rfl rfl rfl ?_
  exact L36 1 (by omega) (by omega) 0 (by omega) rfl
theorem s_270F1 {x y : Int32} (hy : y < nI 0 ∨ nI 2 < y) (k : kM Q I L P 1 (.int (nI 0))) : mj_ev (d + 12) 270 [.ref 73, .int x, .int y] (107, I, L, P) Q := by
  refine ⟨rfl, ?_⟩
  show mj_run (mj_ev (d + 11)) k270 Q (k270 0) [some (.ref 73), some (.int x), some (.int y), none, none, none, none] [] (107, I, L, P) 0 0
  refine q_5 rfl ?_
  refine q_0 ?_
  refine q_34 rfl (by decide) ?_
  refine q_5 rfl ?_
  refine q_3 rfl ?_
  refine q_0 ?_
  refine q_47 (mj_ev_mono _) [_, _] rfl rfl rfl (by decide) rfl rfl rfl ?_
  refine s_222F I0_th hy ?_
  first | refine q_eqN0 (by omega) (fun hh => ?_) (fun hh => absurd hh (by omega)) | refine q_eqI0 (fun hh => ?_) (fun hh => absurd (by omega) hh)
  refine q_0 ?_
  refine q_26 ?_
  exact k.bad
theorem s_270F2 {x : Int32} {y : Nat} (hy : y ≤ 2) (hx : x < nI 1 ∨ nI 9 < x) (k : kM Q I L P 2 (.int (nI 0))) : mj_ev (d + 12) 270 [.ref 73, .int x, .int (nI y)] (107, I, L, P) Q := by
  refine ⟨rfl, ?_⟩
  show mj_run (mj_ev (d + 11)) k270 Q (k270 0) [some (.ref 73), some (.int x), some (.int (nI y)), none, none, none, none] [] (107, I, L, P) 0 0
  refine q_5 rfl ?_
  refine q_0 ?_
  refine q_34 rfl (by decide) ?_
  refine q_5 rfl ?_
  refine q_3 rfl ?_
  refine q_0 ?_
  refine q_47 (mj_ev_mono _) [_, _] rfl rfl rfl (by decide) rfl rfl rfl ?_
  refine s_222T I0_th hy (by omega) ?_
  first | refine q_eqN0 (by omega) (fun hh => absurd hh (by omega)) (fun hh => ?_) | refine q_eqI0 (fun hh => absurd hh (by omega)) (fun hh => ?_)
  refine q_5 rfl ?_
  refine q_3 rfl ?_
  refine q_0 ?_
  refine q_0 ?_
  refine q_48 (mj_ev_mono _) [_, _, _] rfl rfl rfl rfl rfl ?_
  refine s_164 ?_
  rw [show (if x < nI 1 then 0 else if nI 9 < x then 0 else 1) = 0 from by rcases hx with h | h <;> simp [h]]
  refine q_0 ?_
  refine q_47 (mj_ev_mono _) [_, _] rfl rfl rfl (by decide) rfl rfl rfl ?_
  refine s_163F I0_th (by omega) (by omega) ?_
  first | refine q_neN0 (by omega) (fun hh => absurd hh (by omega)) (fun hh => ?_) | refine q_neI0 (fun hh => absurd hh (by omega)) (fun hh => ?_)
  refine q_0 ?_
  refine q_26 ?_
  exact k.bad
end M
