/-! the class: a course -/
theorem hu9 {h : Nat → Nat} {p f : Nat} (hp : h p < 10) : decide (9 ≤ hu h f p) = decide (9 ≤ h p + f) := by
  rw [hu_eq hp]
  exact decide_eq_decide.mpr (by split <;> omega)
theorem prt_congr {n : Nat} {wn wn' : Nat → Bool} {m : MM} (h : ∀ p, p < n → wn p = wn' p) : prt n wn m = prt n wn' m := fld_congr (fun j a _ hj => by
  unfold prtF
  rw [h j hj])
/-- many, one FAIR more -/
theorem many_s {w : WT} {c h : Nat → Nat} {m : MM} {f : Nat} (hh : ∀ p, p < w.n → h p < 10) : (many w c (h, m) (f + 1)).2 = (prt w.n (fun p => decide (9 ≤ h p + (f + 1))) (bal w.n (alk w c (hu h f)) w.n (many w c (h, m) f).2)).1 := by
  show (hldm w c (many w c (h, m) f)).1 = _
  unfold hldm
  rw [many_1]
  show (prt w.n (fun p => decide (9 ≤ hu h (f + 1) p)) (bal w.n (alk w c (hu h f)) w.n (many w c (h, m) f).2)).1 = _
  rw [prt_congr (fun p hp => hu9 (f := f + 1) (hh p hp))]
theorem many_gm {w : WT} {c h : Nat → Nat} {m : MM} (hg : gm w.n m) : ∀ k, gm w.n (many w c (h, m) k).2
  | 0 => hg
  | k + 1 => gm_prt (gm_bal _ (many_gm hg k))
theorem prt_worn {n : Nat} {wn : Nat → Bool} {m : MM} : ∀ p, p < n → wn p = true → (prt n wn m).1 p = none := by
  intro p hp hw
  have h := fld_inv (α := MM × Nat) (n := n) (f := prtF wn) (p := fun k acc => p < k → acc.1 p = none) (i := 0) (acc := (m, 0)) (fun q => absurd q (by omega)) (fun j acc _ hj hacc hpj => by
    obtain ⟨m1, x⟩ := acc
    by_cases e : p = j
    · subst e
      cases hq : m1 p with
      | none =>
        rw [prtF_0 hq]
        exact hq
      | some q =>
        rw [prtF_1 hw hq]
        show unb m1 p q p = none
        unfold unb
        by_cases e2 : p = q
        · rw [if_pos e2]
        · rw [if_neg e2, if_pos rfl]
    · have hn : m1 p = none := hacc (by omega)
      cases hwj : wn j with
      | false =>
        rw [prtF_no hwj]
        exact hn
      | true =>
        cases hq : m1 j with
        | none =>
          rw [prtF_0 hq]
          exact hn
        | some q =>
          rw [prtF_1 hwj hq]
          show unb m1 j q p = none
          unfold unb
          by_cases e2 : p = q
          · rw [if_pos e2]
          · rw [if_neg e2, if_neg e]
            exact hn) (by omega)
  exact h hp
/-- behind nine FAIRS nobody is bound -/
theorem many_9 {w : WT} {c h : Nat → Nat} {m : MM} {f : Nat} (hh : ∀ p, p < w.n → h p < 10) (hf : 9 ≤ f) : ∀ p, p < w.n → (many w c (h, m) f).2 p = none := by
  intro p hp
  obtain ⟨f', rfl⟩ : ∃ f', f = f' + 1 := ⟨f - 1, by omega⟩
  rw [many_s hh]
  exact prt_worn p hp (decide_eq_true (by omega))
/-- rows up to k are known -/
def KR (w : WT) (c h : Nat → Nat) (m : MM) (z k : Nat) (I : mj_I) : Prop := ∀ j, j ≤ k → ∀ p, p < w.n → I z (10 * j + p) = mI ((many w c (h, m) j).2 p)
def mB (w : WT) (c h : Nat → Nat) (m : MM) (f p : Nat) : Option Nat := if f ≤ 8 then (many w c (h, m) f).2 p else none
theorem mB_eq {w : WT} {c h : Nat → Nat} {m : MM} {f p : Nat} (hh : ∀ p, p < w.n → h p < 10) (hp : p < w.n) : mB w c h m f p = (many w c (h, m) f).2 p := by
  unfold mB
  by_cases e : f ≤ 8
  · rw [if_pos e]
  · rw [if_neg e, many_9 hh (by omega) p hp]
/-- all mates in one number, by sixteens -/
def rc4 (n : Nat) (m : MM) : Nat := fld n 0 (fun v p => 16 * v + mN (m p)) 0
theorem rc4_lt {n : Nat} {m : MM} (hn : n ≤ 10) (hm : ∀ p, p < n → ∀ q, m p = some q → q < 10) : rc4 n m < 16 ^ 10 := by
  have h := fld_inv (n := n) (f := fun v p => 16 * v + mN (m p)) (p := fun k v => v < 16 ^ k) (i := 0) (acc := 0) (by decide) (fun j v _ hj hv => by
    have h1 : mN (m j) ≤ 10 := by
      cases e : m j with
      | none => exact Nat.zero_le _
      | some q =>
        have := hm j hj q e
        show q + 1 ≤ 10
        omega
    show 16 * v + mN (m j) < 16 ^ (j + 1)
    rw [Nat.pow_succ]
    omega) (Nat.zero_le _)
  exact Nat.lt_of_lt_of_le h (Nat.pow_le_pow_right (by decide) hn)
theorem shl4 {v x : Nat} (hv : v < 2 ^ 40) (hx : x < 16) : lN v <<< ((nI 4).toInt64 &&& 63) ||| lN x = lN (16 * v + x) := by
  apply Int64.toBitVec_inj.mp
  apply BitVec.eq_of_toNat_eq
  have e4 : ((nI 4).toInt64 &&& 63) = 4 := by decide
  have t : ∀ y : Nat, y < 2 ^ 64 → (lN y).toBitVec.toNat = y := fun y hy => Nat.mod_eq_of_lt hy
  rw [e4, Int64.toBitVec_or, BitVec.toNat_or, Int64.toBitVec_shiftLeft, t x (by omega), t _ (by omega)]
  have e5 : ((4 : Int64).toBitVec.smod 64) = 4 := by decide
  rw [e5]
  rw [BitVec.shiftLeft_eq', BitVec.toNat_shiftLeft, t v (by omega)]
  rw [show (4 : BitVec 64).toNat = 4 from rfl, Nat.shiftLeft_eq, Nat.mod_eq_of_lt (by omega)]
  have := Nat.two_pow_add_eq_or_of_lt (i := 4) (b := x) (by omega) v
  rw [← Nat.mul_comm (2 ^ 4) v, ← this]
section C
variable {I : mj_I} {L : mj_L} {P : mj_P} {Q : mj_Q} {d n r t a b : Nat} {A : AS} {w : WT} {c h : Nat → Nat} {m : MM} {al : Nat → Nat → Int32}

theorem ca_15 (k : Q (.inl none) (107, mj_upI I 51 4 (-(nI 1)), L, P)) : mj_ev (d + 1) 15 [.ref 51] (107, I, L, P) Q := by
  refine ⟨rfl, ?_⟩
  show mj_run (mj_ev d) k15 Q (k15 0) [some (.ref 51)] [] (107, I, L, P) 0 0
  refine q_5 rfl ?_
  refine q_1 ?_
  refine q_34 rfl (by decide) ?_
  refine q_25 ?_
  exact k
theorem ca_16 {f : Nat} {v : Option Nat} (hP : PS t P) (ha : a < 10) (hf : f < 1000) (hv : f ≤ 8 → I 52 (10 * f + a) = mI v) (hv2 : 8 < f → v = none) (k : Q (.inl (some (.int (mI v)))) (107, I, L, P)) : mj_ev (d + 1) 16 [.ref 51, .int (nI a), .int (nI f)] (107, I, L, P) Q := by
  refine ⟨rfl, ?_⟩
  show mj_run (mj_ev d) k16 Q (k16 0) [some (.ref 51), some (.int (nI a)), some (.int (nI f))] [] (107, I, L, P) 0 0
  rcases Nat.lt_or_ge 8 f with hlt | hge
  · rw [hv2 hlt] at k
    refine q_3 rfl ?_
    first | refine q_ltN0 (by omega) ?_ | refine q_ltI0 (fun hh => absurd hh (by omega)) (fun hh => ?_)
    refine q_3 rfl ?_
    refine q_0 ?_
    refine q_leN (by omega) (by omega) (fun hh => absurd hh (by omega)) (fun hh => ?_)
    refine q_1 ?_
    refine q_23 ?_
    refine q_26 ?_
    exact k
  · have v1 := hv hge
    refine q_3 rfl ?_
    first | refine q_ltN0 (by omega) ?_ | refine q_ltI0 (fun hh => absurd hh (by omega)) (fun hh => ?_)
    refine q_3 rfl ?_
    refine q_0 ?_
    refine q_leN (by omega) (by omega) (fun hh => ?_) (fun hh => absurd hh (by omega))
    refine q_5 rfl ?_
    refine q_33 rfl (by decide) (hP _ _ _ rfl) ?_
    refine q_3 rfl ?_
    refine q_0 ?_
    first | refine q_mul ?_ | refine q_11 rfl ?_
    refine q_3 rfl ?_
    first | refine q_add ?_ | refine q_11 rfl ?_
    refine q_38E (10 * f + a) rfl (by decide) (congrArg nI (by omega)) (by show _ < 90; omega) (by decide) v1 ?_
    refine q_26 ?_
    exact k
theorem ca_22 {f : Nat} (hP : PS t P) (hn : I 3 0 = nI n) (hn10 : n ≤ 10) (hf : f < 8) (hg : gm n m) (hM : ∀ p, p < n → I 52 (10 * f + p) = mI (m p)) (hG : ∀ x y, x < n → y < n → x ≠ y → I 49 (100 * f + 10 * x + y) = al x y) (k : ∀ I', (∀ c, c ≠ 52 → I' c = I c) → (∀ j, j < 10 * (f + 1) → I' 52 j = I 52 j) → (∀ p, p < n → I' 52 (10 * (f + 1) + p) = mI (bal n al n m p)) → Q (.inl none) (107, I', L, P)) : mj_ev (d + 2) 22 [.ref 51, .int (nI (f + 1))] (107, I, L, P) Q := by
  refine ⟨rfl, ?_⟩
  show mj_run (mj_ev (d + 1)) k22 Q (k22 0) [some (.ref 51), some (.int (nI (f + 1)))] [] (107, I, L, P) 0 0
  refine q_5 rfl ?_
  refine q_33 rfl (by decide) (hP _ _ _ rfl) ?_
  refine q_3 rfl ?_
  refine q_0 ?_
  first | refine q_sub (by omega) ?_ | refine q_11 rfl ?_
  refine q_0 ?_
  first | refine q_mul ?_ | refine q_11 rfl ?_
  refine q_5 rfl ?_
  refine q_33 rfl (by decide) (hP _ _ _ rfl) ?_
  refine q_3 rfl ?_
  refine q_0 ?_
  first | refine q_mul ?_ | refine q_11 rfl ?_
  refine q_0 ?_
  refine q_54 (f * 10) ((f + 1) * 10) 10 rfl (by decide) rfl (by decide) (congrArg nI (by omega)) (congrArg nI (by omega)) rfl (by show f * 10 + 10 ≤ 90; omega) (by show (f + 1) * 10 + 10 ≤ 90; omega) (by decide) (by decide) rfl ?_
  refine q_5 rfl ?_
  refine q_33 rfl (by decide) (hP _ _ _ rfl) ?_
  refine q_33 rfl (by decide) (hP _ _ _ rfl) ?_
  refine q_3 rfl ?_
  refine q_0 ?_
  first | refine q_sub (by omega) ?_ | refine q_11 rfl ?_
  refine q_0 ?_
  first | refine q_mul ?_ | refine q_11 rfl ?_
  refine q_5 rfl ?_
  refine q_33 rfl (by decide) (hP _ _ _ rfl) ?_
  refine q_3 rfl ?_
  refine q_0 ?_
  first | refine q_mul ?_ | refine q_11 rfl ?_
  refine q_5 rfl ?_
  refine q_33 rfl (by decide) (hP _ _ _ rfl) ?_
  first | refine q_31E rfl (by decide) hn ?_ | refine q_31 rfl (by decide) ?_
  refine q_50 (mj_ev_mono _) [_, _, _, _, _] rfl rfl rfl rfl rfl ?_
  have hM2 : ∀ p, p < n → mj_seI I 52 (va_cpy (I 52) (I 52) (f * 10) ((f + 1) * 10) 10) 52 (10 * (f + 1) + p) = mI (m p) := fun p hp => by
    show va_cpy (I 52) (I 52) (f * 10) ((f + 1) * 10) 10 (10 * (f + 1) + p) = _
    rw [pk_cpy_in (by omega) (by omega), show f * 10 + (10 * (f + 1) + p - (f + 1) * 10) = 10 * f + p by omega]
    exact hM p hp
  rw [show (f + 1 - 1) * 100 = 100 * f by omega, show (f + 1) * 10 = 10 * (f + 1) by omega]
  refine c_159 (g := 49) (z := 52) (sq := 100 * f) (row := 10 * (f + 1)) (lg := 800) (lz := 90) rfl rfl (by decide) (by decide) rfl rfl (by decide) (by decide) (by decide) hn10 (by omega) (by omega) hg (by rw [show (f + 1) * 10 = 10 * (f + 1) by omega] at hM2; exact hM2) (al := al) (fun x y hxy hy _ _ => (by rw [show 100 * f + x * 10 + y = 100 * f + 10 * x + y by omega]; exact hG x y (by omega) hy (by omega))) (fun I1 e1 e2 e3 => ?_)
  refine q_25 ?_
  refine k I1 (fun c hc => (e1 c hc).trans (if_neg hc)) (fun j hj => ?_) e3
  rw [e2 j (Or.inl hj)]
  show va_cpy (I 52) (I 52) (f * 10) (10 * (f + 1)) 10 j = _
  exact pk_cpy_out (Or.inl (by omega))
theorem ca_23 {f : Nat} (hP : PS t P) (hn : I 3 0 = nI n) (hn10 : n ≤ 10) (hf : f < 100) (hh : ∀ p, p < n → I 33 p = nI (h p)) (h10 : ∀ p, p < n → h p < 10) (k : Q (.inl (some (.int (nI (maskF (fun p => decide (9 ≤ h p + f)) n))))) (107, I, L, P)) : mj_ev (d + 1) 23 [.ref 51, .int (nI f)] (107, I, L, P) Q := by
  refine ⟨rfl, ?_⟩
  have L4 : ∀ i, i ≤ n → mj_run (mj_ev d) k23 Q (k23 4) [some (.ref 51), some (.int (nI f)), some (.int (nI (maskF (fun p => decide (9 ≤ h p + f)) i))), some (.int (nI i))] [] (107, I, L, P) 0 0 := by
    refine loop_up ?_ (fun i hi ih => ?_)
    · refine q_3 rfl ?_
      refine q_5 rfl ?_
      refine q_33 rfl (by decide) (hP _ _ _ rfl) ?_
      first | refine q_31E rfl (by decide) hn ?_ | refine q_31 rfl (by decide) ?_
      refine q_geN (by omega) (by omega) (fun hh => ?_) (fun hh => absurd hh (by omega))
      refine q_3 rfl ?_
      refine q_26 ?_
      exact k
    · have r1 := hh i hi
      have r2 := h10 i hi
      rcases Nat.lt_or_ge (h i + f) 9 with hlt | hge
      · rw [maskF_no (fun p => decide (9 ≤ h p + f)) (decide_eq_false (by omega))] at ih
        refine q_3 rfl ?_
        refine q_5 rfl ?_
        refine q_33 rfl (by decide) (hP _ _ _ rfl) ?_
        first | refine q_31E rfl (by decide) hn ?_ | refine q_31 rfl (by decide) ?_
        refine q_geN (by omega) (by omega) (fun hh => absurd hh (by omega)) (fun hh => ?_)
        refine q_5 rfl ?_
        refine q_33 rfl (by decide) (hP _ _ _ rfl) ?_
        refine q_33 rfl (by decide) (hP _ _ _ rfl) ?_
        refine q_3 rfl ?_
        first | refine q_38E _ rfl (by decide) rfl (by show _ < 10; omega) (by decide) (r1) ?_ | refine q_38 _ rfl (by decide) rfl (by show _ < 10; omega) (by decide) ?_
        refine q_3 rfl ?_
        first | refine q_add ?_ | refine q_11 rfl ?_
        refine q_0 ?_
        refine q_ltN (by omega) (by omega) (fun hh => ?_) (fun hh => absurd hh (by omega))
        first | refine q_inc rfl rfl rfl ?_ | refine q_9 rfl rfl rfl ?_
        refine q_23 ?_
        exact ih
      · have e := mask_acc1 (p := fun p => decide (9 ≤ h p + f)) (i := i) (c := True) (by simp; exact hge)
        rw [if_pos trivial] at e
        refine q_3 rfl ?_
        refine q_5 rfl ?_
        refine q_33 rfl (by decide) (hP _ _ _ rfl) ?_
        first | refine q_31E rfl (by decide) hn ?_ | refine q_31 rfl (by decide) ?_
        refine q_geN (by omega) (by omega) (fun hh => absurd hh (by omega)) (fun hh => ?_)
        refine q_5 rfl ?_
        refine q_33 rfl (by decide) (hP _ _ _ rfl) ?_
        refine q_33 rfl (by decide) (hP _ _ _ rfl) ?_
        refine q_3 rfl ?_
        first | refine q_38E _ rfl (by decide) rfl (by show _ < 10; omega) (by decide) (r1) ?_ | refine q_38 _ rfl (by decide) rfl (by show _ < 10; omega) (by decide) ?_
        refine q_3 rfl ?_
        first | refine q_add ?_ | refine q_11 rfl ?_
        refine q_0 ?_
        refine q_ltN (by omega) (by omega) (fun hh => absurd hh (by omega)) (fun hh => ?_)
        refine q_3 rfl ?_
        refine q_0 ?_
        refine q_3 rfl ?_
        first | refine q_shl1 (by omega) ?_ | refine q_11 rfl ?_
        first | refine q_orN ?_ | refine q_11 rfl ?_
        refine q_6 rfl rfl rfl ?_
        first | refine q_inc rfl rfl rfl ?_ | refine q_9 rfl rfl rfl ?_
        refine q_23 ?_
        rw [e]
        exact ih
  show mj_run (mj_ev d) k23 Q (k23 0) [some (.ref 51), some (.int (nI f)), none, none] [] (107, I, L, P) 0 0
  refine q_0 ?_
  refine q_6 rfl rfl rfl ?_
  refine q_0 ?_
  refine q_6 rfl rfl rfl ?_
  exact L4 0 (by omega)
theorem ca_21 {N k0 : Nat} (hP : PS t P) (hn : I 3 0 = nI w.n) (hR : CW w.n 32 33 34 c h m I) (hN : N < 1000) (hG : GV w c h k0 I) (hk0 : k0 ≤ 8) (hNk : N ≤ k0 ∨ k0 = 8) (hK : I 51 4 = -(nI 1) ∨ ∃ k1, k1 ≤ 8 ∧ I 51 4 = nI k1 ∧ KR w c h m 52 k1 I) (k : ∀ I' k2, k2 ≤ 8 → (N ≤ 8 → N ≤ k2) → (8 ≤ N → k2 = 8) → Eqf (frm [52] [(51, 4)]) I I' → I' 51 4 = nI k2 → KR w c h m 52 k2 I' → Q (.inl none) (107, I', L, P)) : mj_ev (d + 3) 21 [.ref 51, .int (nI N)] (107, I, L, P) Q := by
  refine ⟨rfl, ?_⟩
  have hn10 := hR.n10
  have hhh : ∀ p, p < w.n → h p < 10 := fun p hp => hR.h10 hp
  have L38 : ∀ f, f ≤ 9 → 1 ≤ f → ∀ I', (f = 9 ∨ f ≤ N + 1 ∨ N < f) → Eqf (frm [52] [(51, 4)]) I I' → I' 51 4 = nI (f - 1) → KR w c h m 52 (f - 1) I' → mj_run (mj_ev (d + 2)) k21 Q (k21 38) [some (.ref 51), some (.int (nI N)), some (.int (nI f))] [] (107, I', L, P) 0 0 := by
    refine loop_up ?_ (fun f hf ih => ?_)
    · intro _ I' _ e' hw hK'
      rcases Nat.lt_or_ge N 9 with hlt | hge
      · refine q_3 rfl ?_
        refine q_3 rfl ?_
        refine q_gtN (by omega) (by omega) (fun hh => ?_) (fun hh => absurd hh (by omega))
        refine q_25 ?_
        exact k I' 8 (by omega) (fun _ => by omega) (fun _ => rfl) e' hw hK'
      · refine q_3 rfl ?_
        refine q_3 rfl ?_
        refine q_gtN (by omega) (by omega) (fun hh => absurd hh (by omega)) (fun hh => ?_)
        refine q_3 rfl ?_
        refine q_0 ?_
        refine q_gtN (by omega) (by omega) (fun hh => ?_) (fun hh => absurd hh (by omega))
        refine q_25 ?_
        exact k I' 8 (by omega) (fun _ => by omega) (fun _ => rfl) e' hw hK'
    · intro hf1 I' hor e' hw hK'
      obtain ⟨g, rfl⟩ : ∃ g, f = g + 1 := ⟨f - 1, by omega⟩
      rw [Nat.add_sub_cancel] at hw hK'
      rcases Nat.lt_or_ge N (g + 1) with hlt | hge
      · refine q_3 rfl ?_
        refine q_3 rfl ?_
        refine q_gtN (by omega) (by omega) (fun hh => ?_) (fun hh => absurd hh (by omega))
        refine q_25 ?_
        exact k I' g (by omega) (fun _ => by omega) (fun q => absurd q (by omega)) e' hw hK'
      · have hn' : I' 3 0 = nI w.n := (e' 3 0 rfl).trans hn
        have gk : g < k0 := by omega
        refine q_3 rfl ?_
        refine q_3 rfl ?_
        refine q_gtN (by omega) (by omega) (fun hh => absurd hh (by omega)) (fun hh => ?_)
        refine q_3 rfl ?_
        refine q_0 ?_
        refine q_gtN (by omega) (by omega) (fun hh => absurd hh (by omega)) (fun hh => ?_)
        refine q_5 rfl ?_
        refine q_3 rfl ?_
        refine q_47 (mj_ev_mono _) [_] rfl rfl rfl (by decide) rfl rfl rfl ?_
        refine ca_22 (m := (many w c (h, m) g).2) (al := alk w c (hu h g)) hP hn' hn10 (by omega) (many_gm hR.gm g) (fun p hp => hK' g (Nat.le_refl _) p hp) (fun x y hx hy hxy => (e' 49 _ rfl).trans (hG g gk x y hx hy hxy)) (fun I1 a1 a2 a3 => ?_)
        have hn1 : I1 3 0 = nI w.n := by rw [a1 3 (by decide)]; exact hn'
        refine q_5 rfl ?_
        refine q_3 rfl ?_
        refine q_47 (mj_ev_mono _) [_] rfl rfl rfl (by decide) rfl rfl rfl ?_
        refine ca_23 (n := w.n) (h := h) hP hn1 hn10 (by omega) (fun p hp => by rw [a1 33 (by decide), e' 33 p rfl]; exact hR.hol hp) hhh ?_
        refine q_5 rfl ?_
        refine q_33 rfl (by decide) (hP _ _ _ rfl) ?_
        refine q_3 rfl ?_
        refine q_0 ?_
        first | refine q_mul ?_ | refine q_11 rfl ?_
        refine q_5 rfl ?_
        refine q_33 rfl (by decide) (hP _ _ _ rfl) ?_
        first | refine q_31E rfl (by decide) hn1 ?_ | refine q_31 rfl (by decide) ?_
        refine q_50 (mj_ev_mono _) [_, _, _, _] rfl rfl rfl rfl rfl ?_
        rw [show (g + 1) * 10 = 10 * (g + 1) by omega]
        refine c_160 (z := 52) (row := 10 * (g + 1)) (lz := 90) rfl (by decide) rfl (by decide) hn10 (by omega) (gm_bal _ (many_gm hR.gm g)) a3 (fun I2 b1 b2 b3 => ?_)
        refine q_19 rfl ?_
        refine q_5 rfl ?_
        refine q_3 rfl ?_
        refine q_34 rfl (by decide) ?_
        first | refine q_inc rfl rfl rfl ?_ | refine q_9 rfl rfl rfl ?_
        refine q_23 ?_
        refine ih (by omega) _ (by omega) ?_ upI_s (fun j hj p hp => ?_)
        · intro c j q
          have nc : c ≠ 52 := fun z => by subst z; rw [frm_cell (by simp)] at q; cases q
          rw [show mj_upI I2 51 4 (nI (g + 1)) c j = I2 c j from (by
            by_cases ec : c = 51
            · subst ec
              exact upI_j (fun z => by subst z; exact absurd q (by decide))
            · rw [upI_c ec]), b1 c nc, a1 c nc]
          exact e' c j q
        · rw [Nat.add_sub_cancel] at hj
          rw [upI_c (by decide)]
          by_cases ej : j = g + 1
          · subst ej
            rw [b3 p hp, many_s hhh]
          · rw [b2 _ (Or.inl (by omega)), a2 _ (by omega)]
            exact hK' j (by omega) p hp
  show mj_run (mj_ev (d + 2)) k21 Q (k21 0) [some (.ref 51), some (.int (nI N)), none] [] (107, I, L, P) 0 0
  rcases hK with hK | ⟨k1, hk1, hK, hKR⟩
  · have j0 : mj_upI (mj_seI I 52 (va_cpy (I 34) (I 52) 0 0 10)) 51 4 (nI 0) 51 4 = nI 0 := upI_s
    refine q_5 rfl ?_
    first | refine q_31E rfl (by decide) hK ?_ | refine q_31E rfl (by decide) j0 ?_ | refine q_31 rfl (by decide) ?_
    refine q_1 ?_
    refine q_neI (fun q => absurd rfl q) (fun _ => ?_)
    refine q_5 rfl ?_
    refine q_33 rfl (by decide) (hP _ _ _ rfl) ?_
    refine q_33 rfl (by decide) (hP _ _ _ rfl) ?_
    refine q_0 ?_
    refine q_5 rfl ?_
    refine q_33 rfl (by decide) (hP _ _ _ rfl) ?_
    refine q_0 ?_
    refine q_0 ?_
    refine q_54 0 0 10 rfl (by decide) rfl (by decide) rfl rfl rfl (by decide) (by decide) (by decide) (by decide) rfl ?_
    refine q_5 rfl ?_
    refine q_0 ?_
    refine q_34 rfl (by decide) ?_
    refine q_5 rfl ?_
    first | refine q_31E rfl (by decide) hK ?_ | refine q_31E rfl (by decide) j0 ?_ | refine q_31 rfl (by decide) ?_
    refine q_0 ?_
    first | refine q_add ?_ | refine q_11 rfl ?_
    refine q_6 rfl rfl rfl ?_
    refine L38 1 (by omega) (by omega) _ (by omega) ?_ upI_s (fun j hj p hp => ?_)
    · intro c j q
      have nc : c ≠ 52 := fun z => by subst z; rw [frm_cell (by simp)] at q; cases q
      rw [show mj_upI (mj_seI I 52 (va_cpy (I 34) (I 52) 0 0 10)) 51 4 (nI 0) c j = mj_seI I 52 (va_cpy (I 34) (I 52) 0 0 10) c j from (by
        by_cases ec : c = 51
        · subst ec
          exact upI_j (fun z => by subst z; exact absurd q (by decide))
        · rw [upI_c ec])]
      exact congrFun (if_neg nc) j
    · obtain rfl : j = 0 := by omega
      rw [upI_c (by decide)]
      show va_cpy (I 34) (I 52) 0 0 10 (10 * 0 + p) = _
      rw [pk_cpy_in (by omega) (by omega), show 0 + (10 * 0 + p - 0) = p by omega]
      exact hR.mat hp
  · refine q_5 rfl ?_
    first | refine q_31E rfl (by decide) hK ?_ | refine q_31 rfl (by decide) ?_
    refine q_1 ?_
    refine q_neI (fun _ => ?_) (fun q => absurd (mI_ne (by omega)) q)
    refine q_5 rfl ?_
    first | refine q_31E rfl (by decide) hK ?_ | refine q_31 rfl (by decide) ?_
    refine q_0 ?_
    first | refine q_add ?_ | refine q_11 rfl ?_
    refine q_6 rfl rfl rfl ?_
    exact L38 (k1 + 1) (by omega) (by omega) I (by omega) Eqf.rf hK hKR
theorem ca_17 {f : Nat} (hP : PS t P) (hn : I 3 0 = nI w.n) (hn10 : w.n ≤ 10) (hf : f < 1000) (hK : ∀ p, p < w.n → f ≤ 8 → I 52 (10 * f + p) = mI ((many w c (h, m) f).2 p)) (hg : gm w.n m) (k : Q (.inl (some (.int (nI (maskF (fun p => decide (mB w c h m f p = none)) w.n))))) (107, I, L, P)) : mj_ev (d + 2) 17 [.ref 51, .int (nI f)] (107, I, L, P) Q := by
  refine ⟨rfl, ?_⟩
  have L4 : ∀ i, i ≤ w.n → mj_run (mj_ev (d + 1)) k17 Q (k17 4) [some (.ref 51), some (.int (nI f)), some (.int (nI (maskF (fun p => decide (mB w c h m f p = none)) i))), some (.int (nI i))] [] (107, I, L, P) 0 0 := by
    refine loop_up ?_ (fun i hi ih => ?_)
    · refine q_3 rfl ?_
      refine q_5 rfl ?_
      refine q_33 rfl (by decide) (hP _ _ _ rfl) ?_
      first | refine q_31E rfl (by decide) hn ?_ | refine q_31 rfl (by decide) ?_
      refine q_geN (by omega) (by omega) (fun hh => ?_) (fun hh => absurd hh (by omega))
      refine q_3 rfl ?_
      refine q_26 ?_
      exact k
    · have m3 : ∀ q, mB w c h m f i = some q → q < 2 ^ 31 := fun q hq => by
        unfold mB at hq
        split at hq
        · have := (many_gm hg f i hi q hq).1
          omega
        · cases hq
      refine q_3 rfl ?_
      refine q_5 rfl ?_
      refine q_33 rfl (by decide) (hP _ _ _ rfl) ?_
      first | refine q_31E rfl (by decide) hn ?_ | refine q_31 rfl (by decide) ?_
      refine q_geN (by omega) (by omega) (fun hh => absurd hh (by omega)) (fun hh => ?_)
      refine q_5 rfl ?_
      refine q_3 rfl ?_
      refine q_3 rfl ?_
      refine q_47 (mj_ev_mono _) [_, _] rfl rfl rfl (by decide) rfl rfl rfl ?_
      refine ca_16 (v := mB w c h m f i) hP (by omega) hf (fun q => by unfold mB; rw [if_pos q]; exact hK i hi q) (fun q => by unfold mB; rw [if_neg (by omega)]) ?_
      refine q_1 ?_
      refine q_neM m3 (fun h1 => ?_) (fun h1 => ?_)
      · first | refine q_inc rfl rfl rfl ?_ | refine q_9 rfl rfl rfl ?_
        refine q_23 ?_
        first | (rw [maskF_no (fun p => decide (mB w c h m f p = none)) (decide_eq_false h1)] at ih; exact ih) | (have e := mask_acc1 (p := fun p => decide (mB w c h m f p = none)) (i := i) (c := True) (by simp [h1]); rw [if_pos trivial] at e; rw [e]; exact ih)
      · refine q_3 rfl ?_
        refine q_0 ?_
        refine q_3 rfl ?_
        first | refine q_shl1 (by omega) ?_ | refine q_11 rfl ?_
        first | refine q_orN ?_ | refine q_11 rfl ?_
        refine q_6 rfl rfl rfl ?_
        first | refine q_inc rfl rfl rfl ?_ | refine q_9 rfl rfl rfl ?_
        refine q_23 ?_
        first | (rw [maskF_no (fun p => decide (mB w c h m f p = none)) (decide_eq_false h1)] at ih; exact ih) | (have e := mask_acc1 (p := fun p => decide (mB w c h m f p = none)) (i := i) (c := True) (by simp [h1]); rw [if_pos trivial] at e; rw [e]; exact ih)
  show mj_run (mj_ev (d + 1)) k17 Q (k17 0) [some (.ref 51), some (.int (nI f)), none, none] [] (107, I, L, P) 0 0
  refine q_0 ?_
  refine q_6 rfl rfl rfl ?_
  refine q_0 ?_
  refine q_6 rfl rfl rfl ?_
  exact L4 0 (by omega)
theorem ca_18 {f : Nat} (hP : PS t P) (hn : I 3 0 = nI w.n) (hn10 : w.n ≤ 10) (hf : f < 1000) (hK : ∀ p, p < w.n → f ≤ 8 → I 52 (10 * f + p) = mI ((many w c (h, m) f).2 p)) (hg : gm w.n m) (hh : ∀ p, p < w.n → h p < 10) (k : Q (.inl (some (.int (nI (bmk w c (h, m) f / 2))))) (107, I, L, P)) : mj_ev (d + 3) 18 [.ref 51, .int (nI f)] (107, I, L, P) Q := by
  refine ⟨rfl, ?_⟩
  have e1 := cntF_not (fun p => decide (mB w c h m f p = none)) w.n
  have e2 : cntF (fun i => !decide (mB w c h m f i = none)) w.n = bmk w c (h, m) f := cntF_congr (fun p hp => by
    rw [mB_eq hh hp]
    unfold bm
    simp)
  rw [e2] at e1
  show mj_run (mj_ev (d + 2)) k18 Q (k18 0) [some (.ref 51), some (.int (nI f))] [] (107, I, L, P) 0 0
  refine q_5 rfl ?_
  refine q_33 rfl (by decide) (hP _ _ _ rfl) ?_
  first | refine q_31E rfl (by decide) hn ?_ | refine q_31 rfl (by decide) ?_
  refine q_5 rfl ?_
  refine q_3 rfl ?_
  refine q_47 (mj_ev_mono _) [_] rfl rfl rfl (by decide) rfl rfl rfl ?_
  refine ca_17 (w := w) (c := c) (h := h) (m := m) hP hn hn10 hf hK hg ?_
  refine q_48 (mj_ev_mono _) [_] rfl rfl rfl rfl rfl ?_
  refine c_282 hn10 ?_
  refine q_sub (by omega) ?_
  rw [show w.n - cntF (fun p => decide (mB w c h m f p = none)) w.n = bmk w c (h, m) f by omega]
  refine q_0 ?_
  first | refine q_divN (by omega) (by omega) (by omega) ?_ | refine q_div (by assumption) ?_
  refine q_26 ?_
  exact k
theorem ca_19 {f : Nat} (hP : PS t P) (hn : I 3 0 = nI w.n) (hn10 : w.n ≤ 10) (hf : f ≤ 8) (hK : ∀ p, p < w.n → I 52 (10 * f + p) = mI ((many w c (h, m) f).2 p)) (hg : gm w.n m) (k : Q (.inl (some (.long (lN (rc4 w.n (many w c (h, m) f).2))))) (107, I, L, P)) : mj_ev (d + 2) 19 [.ref 51, .int (nI f)] (107, I, L, P) Q := by
  refine ⟨rfl, ?_⟩
  have L5 : ∀ i, i ≤ w.n → ∀ v, v < 16 ^ i → fld w.n i (fun v p => 16 * v + mN ((many w c (h, m) f).2 p)) v = rc4 w.n (many w c (h, m) f).2 → mj_run (mj_ev (d + 1)) k19 Q (k19 5) [some (.ref 51), some (.int (nI f)), some (.long (lN v)), none, some (.int (nI i))] [] (107, I, L, P) 0 0 := by
    refine loop_up ?_ (fun i hi ih => ?_)
    · intro v hv hfl
      rw [fld_end (Nat.le_refl _)] at hfl
      subst hfl
      refine q_3 rfl ?_
      refine q_5 rfl ?_
      refine q_33 rfl (by decide) (hP _ _ _ rfl) ?_
      first | refine q_31E rfl (by decide) hn ?_ | refine q_31 rfl (by decide) ?_
      refine q_geN (by omega) (by omega) (fun hh => ?_) (fun hh => absurd hh (by omega))
      refine q_4 rfl ?_
      refine q_28 ?_
      exact k
    · intro v hv hfl
      rw [fld_step hi] at hfl
      have hx : mN ((many w c (h, m) f).2 i) < 16 := by
        cases e : (many w c (h, m) f).2 i with
        | none => decide
        | some q =>
          have := (many_gm hg f i hi q e).1
          show q + 1 < 16
          omega
      have hv40 : v < 2 ^ 40 := Nat.lt_of_lt_of_le hv (show 16 ^ i ≤ 2 ^ 40 by
        have := Nat.pow_le_pow_right (n := 16) (by decide) (show i ≤ 10 by omega)
        exact this)
      refine q_3 rfl ?_
      refine q_5 rfl ?_
      refine q_33 rfl (by decide) (hP _ _ _ rfl) ?_
      first | refine q_31E rfl (by decide) hn ?_ | refine q_31 rfl (by decide) ?_
      refine q_geN (by omega) (by omega) (fun hh => absurd hh (by omega)) (fun hh => ?_)
      refine q_4 rfl ?_
      refine q_0 ?_
      refine q_14 ?_
      refine q_5 rfl ?_
      refine q_3 rfl ?_
      refine q_3 rfl ?_
      refine q_47 (mj_ev_mono _) [_, _] rfl rfl rfl (by decide) rfl rfl rfl ?_
      refine ca_16 (v := (many w c (h, m) f).2 i) hP (by omega) (by omega) (fun _ => hK i hi) (fun q => absurd q (by omega)) ?_
      refine q_0 ?_
      refine q_11 rfl ?_
      rw [mI_1]
      refine q_15 ?_
      rw [nI_l (by omega)]
      refine q_13 rfl ?_
      rw [shl4 hv40 hx]
      refine q_7 rfl rfl rfl ?_
      first | refine q_inc rfl rfl rfl ?_ | refine q_9 rfl rfl rfl ?_
      refine q_23 ?_
      exact ih _ (by rw [Nat.pow_succ]; omega) hfl
  show mj_run (mj_ev (d + 1)) k19 Q (k19 0) [some (.ref 51), some (.int (nI f)), none, none, none] [] (107, I, L, P) 0 0
  refine q_2 ?_
  refine q_7 rfl rfl rfl ?_
  refine q_0 ?_
  refine q_6 rfl rfl rfl ?_
  exact L5 0 (by omega) 0 (by decide) rfl

theorem cb_15 (k : Q (.inl none) (107, mj_upI I 53 4 (-(nI 1)), L, P)) : mj_ev (d + 1) 15 [.ref 53] (107, I, L, P) Q := by
  refine ⟨rfl, ?_⟩
  show mj_run (mj_ev d) k15 Q (k15 0) [some (.ref 53)] [] (107, I, L, P) 0 0
  refine q_5 rfl ?_
  refine q_1 ?_
  refine q_34 rfl (by decide) ?_
  refine q_25 ?_
  exact k
theorem cb_16 {f : Nat} {v : Option Nat} (hP : PS t P) (ha : a < 10) (hf : f < 1000) (hv : f ≤ 8 → I 54 (10 * f + a) = mI v) (hv2 : 8 < f → v = none) (k : Q (.inl (some (.int (mI v)))) (107, I, L, P)) : mj_ev (d + 1) 16 [.ref 53, .int (nI a), .int (nI f)] (107, I, L, P) Q := by
  refine ⟨rfl, ?_⟩
  show mj_run (mj_ev d) k16 Q (k16 0) [some (.ref 53), some (.int (nI a)), some (.int (nI f))] [] (107, I, L, P) 0 0
  rcases Nat.lt_or_ge 8 f with hlt | hge
  · rw [hv2 hlt] at k
    refine q_3 rfl ?_
    first | refine q_ltN0 (by omega) ?_ | refine q_ltI0 (fun hh => absurd hh (by omega)) (fun hh => ?_)
    refine q_3 rfl ?_
    refine q_0 ?_
    refine q_leN (by omega) (by omega) (fun hh => absurd hh (by omega)) (fun hh => ?_)
    refine q_1 ?_
    refine q_23 ?_
    refine q_26 ?_
    exact k
  · have v1 := hv hge
    refine q_3 rfl ?_
    first | refine q_ltN0 (by omega) ?_ | refine q_ltI0 (fun hh => absurd hh (by omega)) (fun hh => ?_)
    refine q_3 rfl ?_
    refine q_0 ?_
    refine q_leN (by omega) (by omega) (fun hh => ?_) (fun hh => absurd hh (by omega))
    refine q_5 rfl ?_
    refine q_33 rfl (by decide) (hP _ _ _ rfl) ?_
    refine q_3 rfl ?_
    refine q_0 ?_
    first | refine q_mul ?_ | refine q_11 rfl ?_
    refine q_3 rfl ?_
    first | refine q_add ?_ | refine q_11 rfl ?_
    refine q_38E (10 * f + a) rfl (by decide) (congrArg nI (by omega)) (by show _ < 90; omega) (by decide) v1 ?_
    refine q_26 ?_
    exact k
theorem cb_22 {f : Nat} (hP : PS t P) (hn : I 3 0 = nI n) (hn10 : n ≤ 10) (hf : f < 8) (hg : gm n m) (hM : ∀ p, p < n → I 54 (10 * f + p) = mI (m p)) (hG : ∀ x y, x < n → y < n → x ≠ y → I 49 (100 * f + 10 * x + y) = al x y) (k : ∀ I', (∀ c, c ≠ 54 → I' c = I c) → (∀ j, j < 10 * (f + 1) → I' 54 j = I 54 j) → (∀ p, p < n → I' 54 (10 * (f + 1) + p) = mI (bal n al n m p)) → Q (.inl none) (107, I', L, P)) : mj_ev (d + 2) 22 [.ref 53, .int (nI (f + 1))] (107, I, L, P) Q := by
  refine ⟨rfl, ?_⟩
  show mj_run (mj_ev (d + 1)) k22 Q (k22 0) [some (.ref 53), some (.int (nI (f + 1)))] [] (107, I, L, P) 0 0
  refine q_5 rfl ?_
  refine q_33 rfl (by decide) (hP _ _ _ rfl) ?_
  refine q_3 rfl ?_
  refine q_0 ?_
  first | refine q_sub (by omega) ?_ | refine q_11 rfl ?_
  refine q_0 ?_
  first | refine q_mul ?_ | refine q_11 rfl ?_
  refine q_5 rfl ?_
  refine q_33 rfl (by decide) (hP _ _ _ rfl) ?_
  refine q_3 rfl ?_
  refine q_0 ?_
  first | refine q_mul ?_ | refine q_11 rfl ?_
  refine q_0 ?_
  refine q_54 (f * 10) ((f + 1) * 10) 10 rfl (by decide) rfl (by decide) (congrArg nI (by omega)) (congrArg nI (by omega)) rfl (by show f * 10 + 10 ≤ 90; omega) (by show (f + 1) * 10 + 10 ≤ 90; omega) (by decide) (by decide) rfl ?_
  refine q_5 rfl ?_
  refine q_33 rfl (by decide) (hP _ _ _ rfl) ?_
  refine q_33 rfl (by decide) (hP _ _ _ rfl) ?_
  refine q_3 rfl ?_
  refine q_0 ?_
  first | refine q_sub (by omega) ?_ | refine q_11 rfl ?_
  refine q_0 ?_
  first | refine q_mul ?_ | refine q_11 rfl ?_
  refine q_5 rfl ?_
  refine q_33 rfl (by decide) (hP _ _ _ rfl) ?_
  refine q_3 rfl ?_
  refine q_0 ?_
  first | refine q_mul ?_ | refine q_11 rfl ?_
  refine q_5 rfl ?_
  refine q_33 rfl (by decide) (hP _ _ _ rfl) ?_
  first | refine q_31E rfl (by decide) hn ?_ | refine q_31 rfl (by decide) ?_
  refine q_50 (mj_ev_mono _) [_, _, _, _, _] rfl rfl rfl rfl rfl ?_
  have hM2 : ∀ p, p < n → mj_seI I 54 (va_cpy (I 54) (I 54) (f * 10) ((f + 1) * 10) 10) 54 (10 * (f + 1) + p) = mI (m p) := fun p hp => by
    show va_cpy (I 54) (I 54) (f * 10) ((f + 1) * 10) 10 (10 * (f + 1) + p) = _
    rw [pk_cpy_in (by omega) (by omega), show f * 10 + (10 * (f + 1) + p - (f + 1) * 10) = 10 * f + p by omega]
    exact hM p hp
  rw [show (f + 1 - 1) * 100 = 100 * f by omega, show (f + 1) * 10 = 10 * (f + 1) by omega]
  refine c_159 (g := 49) (z := 54) (sq := 100 * f) (row := 10 * (f + 1)) (lg := 800) (lz := 90) rfl rfl (by decide) (by decide) rfl rfl (by decide) (by decide) (by decide) hn10 (by omega) (by omega) hg (by rw [show (f + 1) * 10 = 10 * (f + 1) by omega] at hM2; exact hM2) (al := al) (fun x y hxy hy _ _ => (by rw [show 100 * f + x * 10 + y = 100 * f + 10 * x + y by omega]; exact hG x y (by omega) hy (by omega))) (fun I1 e1 e2 e3 => ?_)
  refine q_25 ?_
  refine k I1 (fun c hc => (e1 c hc).trans (if_neg hc)) (fun j hj => ?_) e3
  rw [e2 j (Or.inl hj)]
  show va_cpy (I 54) (I 54) (f * 10) (10 * (f + 1)) 10 j = _
  exact pk_cpy_out (Or.inl (by omega))
theorem cb_23 {f : Nat} (hP : PS t P) (hn : I 3 0 = nI n) (hn10 : n ≤ 10) (hf : f < 100) (hh : ∀ p, p < n → I 33 p = nI (h p)) (h10 : ∀ p, p < n → h p < 10) (k : Q (.inl (some (.int (nI (maskF (fun p => decide (9 ≤ h p + f)) n))))) (107, I, L, P)) : mj_ev (d + 1) 23 [.ref 53, .int (nI f)] (107, I, L, P) Q := by
  refine ⟨rfl, ?_⟩
  have L4 : ∀ i, i ≤ n → mj_run (mj_ev d) k23 Q (k23 4) [some (.ref 53), some (.int (nI f)), some (.int (nI (maskF (fun p => decide (9 ≤ h p + f)) i))), some (.int (nI i))] [] (107, I, L, P) 0 0 := by
    refine loop_up ?_ (fun i hi ih => ?_)
    · refine q_3 rfl ?_
      refine q_5 rfl ?_
      refine q_33 rfl (by decide) (hP _ _ _ rfl) ?_
      first | refine q_31E rfl (by decide) hn ?_ | refine q_31 rfl (by decide) ?_
      refine q_geN (by omega) (by omega) (fun hh => ?_) (fun hh => absurd hh (by omega))
      refine q_3 rfl ?_
      refine q_26 ?_
      exact k
    · have r1 := hh i hi
      have r2 := h10 i hi
      rcases Nat.lt_or_ge (h i + f) 9 with hlt | hge
      · rw [maskF_no (fun p => decide (9 ≤ h p + f)) (decide_eq_false (by omega))] at ih
        refine q_3 rfl ?_
        refine q_5 rfl ?_
        refine q_33 rfl (by decide) (hP _ _ _ rfl) ?_
        first | refine q_31E rfl (by decide) hn ?_ | refine q_31 rfl (by decide) ?_
        refine q_geN (by omega) (by omega) (fun hh => absurd hh (by omega)) (fun hh => ?_)
        refine q_5 rfl ?_
        refine q_33 rfl (by decide) (hP _ _ _ rfl) ?_
        refine q_33 rfl (by decide) (hP _ _ _ rfl) ?_
        refine q_3 rfl ?_
        first | refine q_38E _ rfl (by decide) rfl (by show _ < 10; omega) (by decide) (r1) ?_ | refine q_38 _ rfl (by decide) rfl (by show _ < 10; omega) (by decide) ?_
        refine q_3 rfl ?_
        first | refine q_add ?_ | refine q_11 rfl ?_
        refine q_0 ?_
        refine q_ltN (by omega) (by omega) (fun hh => ?_) (fun hh => absurd hh (by omega))
        first | refine q_inc rfl rfl rfl ?_ | refine q_9 rfl rfl rfl ?_
        refine q_23 ?_
        exact ih
      · have e := mask_acc1 (p := fun p => decide (9 ≤ h p + f)) (i := i) (c := True) (by simp; exact hge)
        rw [if_pos trivial] at e
        refine q_3 rfl ?_
        refine q_5 rfl ?_
        refine q_33 rfl (by decide) (hP _ _ _ rfl) ?_
        first | refine q_31E rfl (by decide) hn ?_ | refine q_31 rfl (by decide) ?_
        refine q_geN (by omega) (by omega) (fun hh => absurd hh (by omega)) (fun hh => ?_)
        refine q_5 rfl ?_
        refine q_33 rfl (by decide) (hP _ _ _ rfl) ?_
        refine q_33 rfl (by decide) (hP _ _ _ rfl) ?_
        refine q_3 rfl ?_
        first | refine q_38E _ rfl (by decide) rfl (by show _ < 10; omega) (by decide) (r1) ?_ | refine q_38 _ rfl (by decide) rfl (by show _ < 10; omega) (by decide) ?_
        refine q_3 rfl ?_
        first | refine q_add ?_ | refine q_11 rfl ?_
        refine q_0 ?_
        refine q_ltN (by omega) (by omega) (fun hh => absurd hh (by omega)) (fun hh => ?_)
        refine q_3 rfl ?_
        refine q_0 ?_
        refine q_3 rfl ?_
        first | refine q_shl1 (by omega) ?_ | refine q_11 rfl ?_
        first | refine q_orN ?_ | refine q_11 rfl ?_
        refine q_6 rfl rfl rfl ?_
        first | refine q_inc rfl rfl rfl ?_ | refine q_9 rfl rfl rfl ?_
        refine q_23 ?_
        rw [e]
        exact ih
  show mj_run (mj_ev d) k23 Q (k23 0) [some (.ref 53), some (.int (nI f)), none, none] [] (107, I, L, P) 0 0
  refine q_0 ?_
  refine q_6 rfl rfl rfl ?_
  refine q_0 ?_
  refine q_6 rfl rfl rfl ?_
  exact L4 0 (by omega)
theorem cb_21 {N k0 : Nat} (hP : PS t P) (hn : I 3 0 = nI w.n) (hR : CW w.n 32 33 34 c h m I) (hN : N < 1000) (hG : GV w c h k0 I) (hk0 : k0 ≤ 8) (hNk : N ≤ k0 ∨ k0 = 8) (hK : I 53 4 = -(nI 1) ∨ ∃ k1, k1 ≤ 8 ∧ I 53 4 = nI k1 ∧ KR w c h m 54 k1 I) (k : ∀ I' k2, k2 ≤ 8 → (N ≤ 8 → N ≤ k2) → (8 ≤ N → k2 = 8) → Eqf (frm [54] [(53, 4)]) I I' → I' 53 4 = nI k2 → KR w c h m 54 k2 I' → Q (.inl none) (107, I', L, P)) : mj_ev (d + 3) 21 [.ref 53, .int (nI N)] (107, I, L, P) Q := by
  refine ⟨rfl, ?_⟩
  have hn10 := hR.n10
  have hhh : ∀ p, p < w.n → h p < 10 := fun p hp => hR.h10 hp
  have L38 : ∀ f, f ≤ 9 → 1 ≤ f → ∀ I', (f = 9 ∨ f ≤ N + 1 ∨ N < f) → Eqf (frm [54] [(53, 4)]) I I' → I' 53 4 = nI (f - 1) → KR w c h m 54 (f - 1) I' → mj_run (mj_ev (d + 2)) k21 Q (k21 38) [some (.ref 53), some (.int (nI N)), some (.int (nI f))] [] (107, I', L, P) 0 0 := by
    refine loop_up ?_ (fun f hf ih => ?_)
    · intro _ I' _ e' hw hK'
      rcases Nat.lt_or_ge N 9 with hlt | hge
      · refine q_3 rfl ?_
        refine q_3 rfl ?_
        refine q_gtN (by omega) (by omega) (fun hh => ?_) (fun hh => absurd hh (by omega))
        refine q_25 ?_
        exact k I' 8 (by omega) (fun _ => by omega) (fun _ => rfl) e' hw hK'
      · refine q_3 rfl ?_
        refine q_3 rfl ?_
        refine q_gtN (by omega) (by omega) (fun hh => absurd hh (by omega)) (fun hh => ?_)
        refine q_3 rfl ?_
        refine q_0 ?_
        refine q_gtN (by omega) (by omega) (fun hh => ?_) (fun hh => absurd hh (by omega))
        refine q_25 ?_
        exact k I' 8 (by omega) (fun _ => by omega) (fun _ => rfl) e' hw hK'
    · intro hf1 I' hor e' hw hK'
      obtain ⟨g, rfl⟩ : ∃ g, f = g + 1 := ⟨f - 1, by omega⟩
      rw [Nat.add_sub_cancel] at hw hK'
      rcases Nat.lt_or_ge N (g + 1) with hlt | hge
      · refine q_3 rfl ?_
        refine q_3 rfl ?_
        refine q_gtN (by omega) (by omega) (fun hh => ?_) (fun hh => absurd hh (by omega))
        refine q_25 ?_
        exact k I' g (by omega) (fun _ => by omega) (fun q => absurd q (by omega)) e' hw hK'
      · have hn' : I' 3 0 = nI w.n := (e' 3 0 rfl).trans hn
        have gk : g < k0 := by omega
        refine q_3 rfl ?_
        refine q_3 rfl ?_
        refine q_gtN (by omega) (by omega) (fun hh => absurd hh (by omega)) (fun hh => ?_)
        refine q_3 rfl ?_
        refine q_0 ?_
        refine q_gtN (by omega) (by omega) (fun hh => absurd hh (by omega)) (fun hh => ?_)
        refine q_5 rfl ?_
        refine q_3 rfl ?_
        refine q_47 (mj_ev_mono _) [_] rfl rfl rfl (by decide) rfl rfl rfl ?_
        refine cb_22 (m := (many w c (h, m) g).2) (al := alk w c (hu h g)) hP hn' hn10 (by omega) (many_gm hR.gm g) (fun p hp => hK' g (Nat.le_refl _) p hp) (fun x y hx hy hxy => (e' 49 _ rfl).trans (hG g gk x y hx hy hxy)) (fun I1 a1 a2 a3 => ?_)
        have hn1 : I1 3 0 = nI w.n := by rw [a1 3 (by decide)]; exact hn'
        refine q_5 rfl ?_
        refine q_3 rfl ?_
        refine q_47 (mj_ev_mono _) [_] rfl rfl rfl (by decide) rfl rfl rfl ?_
        refine cb_23 (n := w.n) (h := h) hP hn1 hn10 (by omega) (fun p hp => by rw [a1 33 (by decide), e' 33 p rfl]; exact hR.hol hp) hhh ?_
        refine q_5 rfl ?_
        refine q_33 rfl (by decide) (hP _ _ _ rfl) ?_
        refine q_3 rfl ?_
        refine q_0 ?_
        first | refine q_mul ?_ | refine q_11 rfl ?_
        refine q_5 rfl ?_
        refine q_33 rfl (by decide) (hP _ _ _ rfl) ?_
        first | refine q_31E rfl (by decide) hn1 ?_ | refine q_31 rfl (by decide) ?_
        refine q_50 (mj_ev_mono _) [_, _, _, _] rfl rfl rfl rfl rfl ?_
        rw [show (g + 1) * 10 = 10 * (g + 1) by omega]
        refine c_160 (z := 54) (row := 10 * (g + 1)) (lz := 90) rfl (by decide) rfl (by decide) hn10 (by omega) (gm_bal _ (many_gm hR.gm g)) a3 (fun I2 b1 b2 b3 => ?_)
        refine q_19 rfl ?_
        refine q_5 rfl ?_
        refine q_3 rfl ?_
        refine q_34 rfl (by decide) ?_
        first | refine q_inc rfl rfl rfl ?_ | refine q_9 rfl rfl rfl ?_
        refine q_23 ?_
        refine ih (by omega) _ (by omega) ?_ upI_s (fun j hj p hp => ?_)
        · intro c j q
          have nc : c ≠ 54 := fun z => by subst z; rw [frm_cell (by simp)] at q; cases q
          rw [show mj_upI I2 53 4 (nI (g + 1)) c j = I2 c j from (by
            by_cases ec : c = 53
            · subst ec
              exact upI_j (fun z => by subst z; exact absurd q (by decide))
            · rw [upI_c ec]), b1 c nc, a1 c nc]
          exact e' c j q
        · rw [Nat.add_sub_cancel] at hj
          rw [upI_c (by decide)]
          by_cases ej : j = g + 1
          · subst ej
            rw [b3 p hp, many_s hhh]
          · rw [b2 _ (Or.inl (by omega)), a2 _ (by omega)]
            exact hK' j (by omega) p hp
  show mj_run (mj_ev (d + 2)) k21 Q (k21 0) [some (.ref 53), some (.int (nI N)), none] [] (107, I, L, P) 0 0
  rcases hK with hK | ⟨k1, hk1, hK, hKR⟩
  · have j0 : mj_upI (mj_seI I 54 (va_cpy (I 34) (I 54) 0 0 10)) 53 4 (nI 0) 53 4 = nI 0 := upI_s
    refine q_5 rfl ?_
    first | refine q_31E rfl (by decide) hK ?_ | refine q_31E rfl (by decide) j0 ?_ | refine q_31 rfl (by decide) ?_
    refine q_1 ?_
    refine q_neI (fun q => absurd rfl q) (fun _ => ?_)
    refine q_5 rfl ?_
    refine q_33 rfl (by decide) (hP _ _ _ rfl) ?_
    refine q_33 rfl (by decide) (hP _ _ _ rfl) ?_
    refine q_0 ?_
    refine q_5 rfl ?_
    refine q_33 rfl (by decide) (hP _ _ _ rfl) ?_
    refine q_0 ?_
    refine q_0 ?_
    refine q_54 0 0 10 rfl (by decide) rfl (by decide) rfl rfl rfl (by decide) (by decide) (by decide) (by decide) rfl ?_
    refine q_5 rfl ?_
    refine q_0 ?_
    refine q_34 rfl (by decide) ?_
    refine q_5 rfl ?_
    first | refine q_31E rfl (by decide) hK ?_ | refine q_31E rfl (by decide) j0 ?_ | refine q_31 rfl (by decide) ?_
    refine q_0 ?_
    first | refine q_add ?_ | refine q_11 rfl ?_
    refine q_6 rfl rfl rfl ?_
    refine L38 1 (by omega) (by omega) _ (by omega) ?_ upI_s (fun j hj p hp => ?_)
    · intro c j q
      have nc : c ≠ 54 := fun z => by subst z; rw [frm_cell (by simp)] at q; cases q
      rw [show mj_upI (mj_seI I 54 (va_cpy (I 34) (I 54) 0 0 10)) 53 4 (nI 0) c j = mj_seI I 54 (va_cpy (I 34) (I 54) 0 0 10) c j from (by
        by_cases ec : c = 53
        · subst ec
          exact upI_j (fun z => by subst z; exact absurd q (by decide))
        · rw [upI_c ec])]
      exact congrFun (if_neg nc) j
    · obtain rfl : j = 0 := by omega
      rw [upI_c (by decide)]
      show va_cpy (I 34) (I 54) 0 0 10 (10 * 0 + p) = _
      rw [pk_cpy_in (by omega) (by omega), show 0 + (10 * 0 + p - 0) = p by omega]
      exact hR.mat hp
  · refine q_5 rfl ?_
    first | refine q_31E rfl (by decide) hK ?_ | refine q_31 rfl (by decide) ?_
    refine q_1 ?_
    refine q_neI (fun _ => ?_) (fun q => absurd (mI_ne (by omega)) q)
    refine q_5 rfl ?_
    first | refine q_31E rfl (by decide) hK ?_ | refine q_31 rfl (by decide) ?_
    refine q_0 ?_
    first | refine q_add ?_ | refine q_11 rfl ?_
    refine q_6 rfl rfl rfl ?_
    exact L38 (k1 + 1) (by omega) (by omega) I (by omega) Eqf.rf hK hKR
theorem cb_17 {f : Nat} (hP : PS t P) (hn : I 3 0 = nI w.n) (hn10 : w.n ≤ 10) (hf : f < 1000) (hK : ∀ p, p < w.n → f ≤ 8 → I 54 (10 * f + p) = mI ((many w c (h, m) f).2 p)) (hg : gm w.n m) (k : Q (.inl (some (.int (nI (maskF (fun p => decide (mB w c h m f p = none)) w.n))))) (107, I, L, P)) : mj_ev (d + 2) 17 [.ref 53, .int (nI f)] (107, I, L, P) Q := by
  refine ⟨rfl, ?_⟩
  have L4 : ∀ i, i ≤ w.n → mj_run (mj_ev (d + 1)) k17 Q (k17 4) [some (.ref 53), some (.int (nI f)), some (.int (nI (maskF (fun p => decide (mB w c h m f p = none)) i))), some (.int (nI i))] [] (107, I, L, P) 0 0 := by
    refine loop_up ?_ (fun i hi ih => ?_)
    · refine q_3 rfl ?_
      refine q_5 rfl ?_
      refine q_33 rfl (by decide) (hP _ _ _ rfl) ?_
      first | refine q_31E rfl (by decide) hn ?_ | refine q_31 rfl (by decide) ?_
      refine q_geN (by omega) (by omega) (fun hh => ?_) (fun hh => absurd hh (by omega))
      refine q_3 rfl ?_
      refine q_26 ?_
      exact k
    · have m3 : ∀ q, mB w c h m f i = some q → q < 2 ^ 31 := fun q hq => by
        unfold mB at hq
        split at hq
        · have := (many_gm hg f i hi q hq).1
          omega
        · cases hq
      refine q_3 rfl ?_
      refine q_5 rfl ?_
      refine q_33 rfl (by decide) (hP _ _ _ rfl) ?_
      first | refine q_31E rfl (by decide) hn ?_ | refine q_31 rfl (by decide) ?_
      refine q_geN (by omega) (by omega) (fun hh => absurd hh (by omega)) (fun hh => ?_)
      refine q_5 rfl ?_
      refine q_3 rfl ?_
      refine q_3 rfl ?_
      refine q_47 (mj_ev_mono _) [_, _] rfl rfl rfl (by decide) rfl rfl rfl ?_
      refine cb_16 (v := mB w c h m f i) hP (by omega) hf (fun q => by unfold mB; rw [if_pos q]; exact hK i hi q) (fun q => by unfold mB; rw [if_neg (by omega)]) ?_
      refine q_1 ?_
      refine q_neM m3 (fun h1 => ?_) (fun h1 => ?_)
      · first | refine q_inc rfl rfl rfl ?_ | refine q_9 rfl rfl rfl ?_
        refine q_23 ?_
        first | (rw [maskF_no (fun p => decide (mB w c h m f p = none)) (decide_eq_false h1)] at ih; exact ih) | (have e := mask_acc1 (p := fun p => decide (mB w c h m f p = none)) (i := i) (c := True) (by simp [h1]); rw [if_pos trivial] at e; rw [e]; exact ih)
      · refine q_3 rfl ?_
        refine q_0 ?_
        refine q_3 rfl ?_
        first | refine q_shl1 (by omega) ?_ | refine q_11 rfl ?_
        first | refine q_orN ?_ | refine q_11 rfl ?_
        refine q_6 rfl rfl rfl ?_
        first | refine q_inc rfl rfl rfl ?_ | refine q_9 rfl rfl rfl ?_
        refine q_23 ?_
        first | (rw [maskF_no (fun p => decide (mB w c h m f p = none)) (decide_eq_false h1)] at ih; exact ih) | (have e := mask_acc1 (p := fun p => decide (mB w c h m f p = none)) (i := i) (c := True) (by simp [h1]); rw [if_pos trivial] at e; rw [e]; exact ih)
  show mj_run (mj_ev (d + 1)) k17 Q (k17 0) [some (.ref 53), some (.int (nI f)), none, none] [] (107, I, L, P) 0 0
  refine q_0 ?_
  refine q_6 rfl rfl rfl ?_
  refine q_0 ?_
  refine q_6 rfl rfl rfl ?_
  exact L4 0 (by omega)
theorem cb_18 {f : Nat} (hP : PS t P) (hn : I 3 0 = nI w.n) (hn10 : w.n ≤ 10) (hf : f < 1000) (hK : ∀ p, p < w.n → f ≤ 8 → I 54 (10 * f + p) = mI ((many w c (h, m) f).2 p)) (hg : gm w.n m) (hh : ∀ p, p < w.n → h p < 10) (k : Q (.inl (some (.int (nI (bmk w c (h, m) f / 2))))) (107, I, L, P)) : mj_ev (d + 3) 18 [.ref 53, .int (nI f)] (107, I, L, P) Q := by
  refine ⟨rfl, ?_⟩
  have e1 := cntF_not (fun p => decide (mB w c h m f p = none)) w.n
  have e2 : cntF (fun i => !decide (mB w c h m f i = none)) w.n = bmk w c (h, m) f := cntF_congr (fun p hp => by
    rw [mB_eq hh hp]
    unfold bm
    simp)
  rw [e2] at e1
  show mj_run (mj_ev (d + 2)) k18 Q (k18 0) [some (.ref 53), some (.int (nI f))] [] (107, I, L, P) 0 0
  refine q_5 rfl ?_
  refine q_33 rfl (by decide) (hP _ _ _ rfl) ?_
  first | refine q_31E rfl (by decide) hn ?_ | refine q_31 rfl (by decide) ?_
  refine q_5 rfl ?_
  refine q_3 rfl ?_
  refine q_47 (mj_ev_mono _) [_] rfl rfl rfl (by decide) rfl rfl rfl ?_
  refine cb_17 (w := w) (c := c) (h := h) (m := m) hP hn hn10 hf hK hg ?_
  refine q_48 (mj_ev_mono _) [_] rfl rfl rfl rfl rfl ?_
  refine c_282 hn10 ?_
  refine q_sub (by omega) ?_
  rw [show w.n - cntF (fun p => decide (mB w c h m f p = none)) w.n = bmk w c (h, m) f by omega]
  refine q_0 ?_
  first | refine q_divN (by omega) (by omega) (by omega) ?_ | refine q_div (by assumption) ?_
  refine q_26 ?_
  exact k
theorem cb_19 {f : Nat} (hP : PS t P) (hn : I 3 0 = nI w.n) (hn10 : w.n ≤ 10) (hf : f ≤ 8) (hK : ∀ p, p < w.n → I 54 (10 * f + p) = mI ((many w c (h, m) f).2 p)) (hg : gm w.n m) (k : Q (.inl (some (.long (lN (rc4 w.n (many w c (h, m) f).2))))) (107, I, L, P)) : mj_ev (d + 2) 19 [.ref 53, .int (nI f)] (107, I, L, P) Q := by
  refine ⟨rfl, ?_⟩
  have L5 : ∀ i, i ≤ w.n → ∀ v, v < 16 ^ i → fld w.n i (fun v p => 16 * v + mN ((many w c (h, m) f).2 p)) v = rc4 w.n (many w c (h, m) f).2 → mj_run (mj_ev (d + 1)) k19 Q (k19 5) [some (.ref 53), some (.int (nI f)), some (.long (lN v)), none, some (.int (nI i))] [] (107, I, L, P) 0 0 := by
    refine loop_up ?_ (fun i hi ih => ?_)
    · intro v hv hfl
      rw [fld_end (Nat.le_refl _)] at hfl
      subst hfl
      refine q_3 rfl ?_
      refine q_5 rfl ?_
      refine q_33 rfl (by decide) (hP _ _ _ rfl) ?_
      first | refine q_31E rfl (by decide) hn ?_ | refine q_31 rfl (by decide) ?_
      refine q_geN (by omega) (by omega) (fun hh => ?_) (fun hh => absurd hh (by omega))
      refine q_4 rfl ?_
      refine q_28 ?_
      exact k
    · intro v hv hfl
      rw [fld_step hi] at hfl
      have hx : mN ((many w c (h, m) f).2 i) < 16 := by
        cases e : (many w c (h, m) f).2 i with
        | none => decide
        | some q =>
          have := (many_gm hg f i hi q e).1
          show q + 1 < 16
          omega
      have hv40 : v < 2 ^ 40 := Nat.lt_of_lt_of_le hv (show 16 ^ i ≤ 2 ^ 40 by
        have := Nat.pow_le_pow_right (n := 16) (by decide) (show i ≤ 10 by omega)
        exact this)
      refine q_3 rfl ?_
      refine q_5 rfl ?_
      refine q_33 rfl (by decide) (hP _ _ _ rfl) ?_
      first | refine q_31E rfl (by decide) hn ?_ | refine q_31 rfl (by decide) ?_
      refine q_geN (by omega) (by omega) (fun hh => absurd hh (by omega)) (fun hh => ?_)
      refine q_4 rfl ?_
      refine q_0 ?_
      refine q_14 ?_
      refine q_5 rfl ?_
      refine q_3 rfl ?_
      refine q_3 rfl ?_
      refine q_47 (mj_ev_mono _) [_, _] rfl rfl rfl (by decide) rfl rfl rfl ?_
      refine cb_16 (v := (many w c (h, m) f).2 i) hP (by omega) (by omega) (fun _ => hK i hi) (fun q => absurd q (by omega)) ?_
      refine q_0 ?_
      refine q_11 rfl ?_
      rw [mI_1]
      refine q_15 ?_
      rw [nI_l (by omega)]
      refine q_13 rfl ?_
      rw [shl4 hv40 hx]
      refine q_7 rfl rfl rfl ?_
      first | refine q_inc rfl rfl rfl ?_ | refine q_9 rfl rfl rfl ?_
      refine q_23 ?_
      exact ih _ (by rw [Nat.pow_succ]; omega) hfl
  show mj_run (mj_ev (d + 1)) k19 Q (k19 0) [some (.ref 53), some (.int (nI f)), none, none, none] [] (107, I, L, P) 0 0
  refine q_2 ?_
  refine q_7 rfl rfl rfl ?_
  refine q_0 ?_
  refine q_6 rfl rfl rfl ?_
  exact L5 0 (by omega) 0 (by decide) rfl

theorem cb_20 {k0 : Nat} (hP : PS t P) (hn : I 3 0 = nI w.n) (hR : CW w.n 32 33 34 c h m I) (ha : a < w.n) (hG : GV w c h k0 I) (hk0 : 1 ≤ k0 ∧ k0 ≤ 8) (k : ∀ I', Eqf (frm [54] [(53, 4)]) I I' → Q (.inl (some (.int (mI (bal w.n (alk w c h) w.n m a))))) (107, I', L, P)) : mj_ev (d + 4) 20 [.ref 53, .int (nI a)] (107, I, L, P) Q := by
  refine ⟨rfl, ?_⟩
  have hn10 := hR.n10
  show mj_run (mj_ev (d + 3)) k20 Q (k20 0) [some (.ref 53), some (.int (nI a))] [] (107, I, L, P) 0 0
  refine q_5 rfl ?_
  refine q_47 (mj_ev_mono _) [] rfl rfl rfl (by decide) rfl rfl rfl ?_
  refine cb_15 ?_
  refine q_5 rfl ?_
  refine q_0 ?_
  refine q_47 (mj_ev_mono _) [_] rfl rfl rfl (by decide) rfl rfl rfl ?_
  refine cb_21 (N := 0) (k0 := k0) hP hn hR (by omega) hG hk0.2 (by omega) (Or.inl upI_s) (fun I1 k2 g1 g2 g3 e1 h4 hK => ?_)
  refine q_5 rfl ?_
  refine q_0 ?_
  refine q_47 (mj_ev_mono _) [_] rfl rfl rfl (by decide) rfl rfl rfl ?_
  refine cb_22 (n := w.n) (m := m) (f := 0) (al := alk w c h) hP ((e1 3 0 rfl).trans hn) hn10 (by omega) hR.gm (fun p hp => hK 0 (by omega) p hp) (fun x y hx hy hxy => (e1 49 _ rfl).trans (hG 0 (by omega) x y hx hy hxy)) (fun I2 a1 a2 a3 => ?_)
  have v1 := a3 a ha
  refine q_5 rfl ?_
  refine q_33 rfl (by decide) (hP _ _ _ rfl) ?_
  refine q_0 ?_
  refine q_3 rfl ?_
  first | refine q_add ?_ | refine q_11 rfl ?_
  refine q_38E (10 * (0 + 1) + a) rfl (by decide) (congrArg nI (by omega)) (by show _ < 90; omega) (by decide) v1 ?_
  refine q_26 ?_
  refine k I2 (fun c j q => ?_)
  have nc : c ≠ 54 := fun z => by subst z; rw [frm_cell (by simp)] at q; cases q
  rw [a1 c nc, e1 c j q]
  by_cases ec : c = 53
  · subst ec
    exact upI_j (fun z => by subst z; exact absurd q (by decide))
  · rw [upI_c ec]
end C
