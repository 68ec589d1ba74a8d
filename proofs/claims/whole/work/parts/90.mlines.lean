/-! the model reads lines -/
/-- a rule told, in what was put so far -/
def ruleO (O : List Nat) (v : Int32) (lo hi : Nat) : Option RP → Prop
  | none => v = -(nI 1)
  | some R => ∃ O1 r, O = O1 ++ enc R ++ [0] ++ r ∧ v = nI O1.length ∧ O1.length + 2 * R.length + 1 ≤ 1400 ∧ rpok lo hi 36 R 0
theorem ruleO.ap {O : List Nat} {v : Int32} {lo hi : Nat} {x : Option RP} (h : ruleO O v lo hi x) (s : List Nat) : ruleO (O ++ s) v lo hi x := by
  cases x with
  | none => exact h
  | some R =>
    obtain ⟨O1, r, rfl, h2, h3, h4⟩ := h
    exact ⟨O1, r ++ s, by simp only [List.append_assoc], h2, h3, h4⟩
theorem OUT.pre {O s : List Nat} {f : Nat → Int32} (h : OUT (O ++ s) f) : OUT O f := fun i v hv => h i v (by
  have : i < O.length := by
    obtain ⟨q, -⟩ := List.getElem?_eq_some_iff.mp hv
    exact q
  rw [List.getElem?_append_left this]
  exact hv)
theorem ruleO.at {O : List Nat} {v : Int32} {lo hi : Nat} {x : Option RP} {f : Nat → Int32} (h : ruleO O v lo hi x) (hO : OUT O f) : ruleAt f v lo hi x := by
  cases x with
  | none => exact h
  | some R =>
    obtain ⟨O1, r, rfl, h2, h3, h4⟩ := h
    exact ⟨O1.length, h2, code_at hO.pre, h3, h4⟩
/-- what the model has read -/
def MR (W : NR) (O : List Nat) (I : mj_I) : Prop := I 73 22 = nI W.n ∧ (∀ p, p < W.n → I 81 p = nI (W.1.pat p) ∧ I 82 p = nI (W.1.woo p) ∧ I 83 p = nI (W.1.siz p) ∧ I 84 p = nI (W.1.chm p) ∧ I 85 (1 + p) = nI (W.c p) ∧ I 85 (12 + p) = nI (W.h p) ∧ I 85 (23 + p) = mI (W.m p)) ∧ I 85 0 = nI 0 ∧ ruleO O (I 73 23) 0 6 W.1.al ∧ ruleO O (I 73 24) 6 10 W.1.li ∧ I 73 25 = nI O.length ∧ OUT O (I 86)
def RdF : List (Nat × Nat) := (73, 22) :: (73, 23) :: (73, 24) :: XF5
def RdC : List Nat := [81, 82, 83, 84, 85, 86, 87, 88]
section M
variable {I : mj_I} {L : mj_L} {P : mj_P} {Q : mj_Q} {d n r t j : Nat} {b : Nat → Nat} {O : List Nat} {lo hi : Nat} {st : ST} {W : NR}
theorem MR.fr {I' : mj_I} (h : MR W O I) (e : Eqf (frm [] tkG) I I') : MR W O I' := by
  obtain ⟨h1, h2, h3, h4, h5, h6, h7⟩ := h
  have e6 : I' 86 = I 86 := funext (fun q => e 86 q rfl)
  refine ⟨(e 73 22 rfl).trans h1, fun p hp => ?_, (e 85 0 rfl).trans h3, ?_, ?_, (e 73 25 rfl).trans h6, by rw [e6]; exact h7⟩
  · obtain ⟨a1, a2, a3, a4, a5, a6, a7⟩ := h2 p hp
    exact ⟨(e 81 p rfl).trans a1, (e 82 p rfl).trans a2, (e 83 p rfl).trans a3, (e 84 p rfl).trans a4, (e 85 _ rfl).trans a5, (e 85 _ rfl).trans a6, (e 85 _ rfl).trans a7⟩
  · rw [e 73 23 rfl]; exact h4
  · rw [e 73 24 rfl]; exact h5
theorem MB.fm {I' : mj_I} (h : MB b n I) (e : Eqf (frm RdC RdF) I I') : MB b n I' := h.fr (fun q => e 79 q rfl) (e 73 14 rfl)
/-- one that is bound to none, if no FAULT -/
theorem s_181 {a : Option Nat} (hP : PS t P) (hB : MB b n I) (hS : SM b n st I L) (hM : MR W O I) (hW : W.ok) (ha : ∀ q, a = some q → q < 10000) {x : Int32} (hx : ∀ j, st = .inr j → x = mI a) (k : ∀ v I' L', Eqf (frm [] tkG) I I' → EqL (frm [] [(73, 21)]) L L' → SM b n (ubS b n W.n W.m a st) I' L' → (∀ j j', st = .inr j → ubS b n W.n W.m a st = .inr j' → v = nI (tV b n j)) → Q (.inl (some (.int v))) (107, I', L', P)) : mj_ev (d + 3) 181 [.ref 73, .int x] (107, I, L, P) Q := by
  refine ⟨rfl, ?_⟩
  show mj_run (mj_ev (d + 2)) k181 Q (k181 0) [some (.ref 73), some (.int x), none] [] (107, I, L, P) 0 0
  cases st with
  | inl e =>
    have hS' := hS
    obtain ⟨g1, g2, g3, g4⟩ := hS
    refine q_5 rfl ?_
    refine q_47 (mj_ev_mono _) [] rfl rfl rfl (by decide) rfl rfl rfl ?_
    refine s_177B g3 g1 g2 ?_
    first | refine q_neN0 (by omega) (fun hh => absurd hh (by omega)) (fun hh => ?_) | refine q_neI0 (fun hh => absurd hh (by omega)) (fun hh => ?_)
    refine q_0 ?_
    refine q_26 ?_
    exact k _ I L Eqf.rf (fun _ _ _ => rfl) hS' (fun j j' e1 => by cases e1)
  | inr j =>
    rw [hx j rfl]
    obtain ⟨g1, g2⟩ := hS
    have g2' := g2
    obtain ⟨h15, h16, h17, h18, h19, h20, h21⟩ := g2
    have h22 := hM.1
    have hn10 : W.n ≤ 10 := hW.1.1
    -- a FAULT c
    have bad : ∀ c, 0 < c → c < 10 → ubS b n W.n W.m a (.inr j) = .inl (c, j) → mj_run (mj_ev (d + 2)) k181 Q (k181 89) [some (.ref 73), some (.int (mI a)), none] [] (107, mj_upI (mj_upI I 73 11 (nI c)) 73 12 (nI (tB b n j)), L, P) 0 0 := by
      intro c c0 c9 e
      have z11 : mj_upI (mj_upI I 73 11 (nI c)) 73 12 (nI (tB b n j)) 73 11 = nI c := rfl
      rw [e] at k
      refine q_5 rfl ?_
      refine q_31 rfl (by decide) ?_
      refine q_6 rfl rfl rfl ?_
      refine q_5 rfl ?_
      refine q_47 (mj_ev_mono _) [] rfl rfl rfl (by decide) rfl rfl rfl ?_
      refine s_177B z11 c0 c9 ?_
      first | refine q_eqN0 (by omega) (fun hh => ?_) (fun hh => absurd hh (by omega)) | refine q_eqI0 (fun hh => ?_) (fun hh => absurd (by omega) hh)
      refine q_3 rfl ?_
      refine q_26 ?_
      exact k _ _ L ((Eqf.rf.up rfl).up rfl) (fun _ _ _ => rfl) (SM_flt c0 c9) (fun j j' _ e2 => by cases e2)
    by_cases k20 : tK b n j = 20
    · have g19 := h19 k20
      have s2 : srt (tK b n j) = 2 := srt_2.mpr k20
      rw [s2] at h16
      have v4 := (t_num k20).2
      have dn : tD b n j ≤ 700 := by
        have := t_adv (b := b) (n := n) (j := j) (by omega)
        have := hB.2.1
        unfold tD
        omega
      by_cases c1 : 4 < tD b n j
      · have e : ubS b n W.n W.m a (.inr j) = .inl (2, j) := (if_neg (by omega)).trans (if_pos c1)
        refine q_5 rfl ?_
        refine q_47 (mj_ev_mono _) [] rfl rfl rfl (by decide) rfl rfl rfl ?_
        refine s_177G g1.1 ?_
        first | refine q_neN0 (by omega) (fun hh => ?_) (fun hh => absurd hh (by omega)) | refine q_neI0 (fun hh => ?_) (fun hh => absurd (by omega) hh)
        refine q_5 rfl ?_
        first | refine q_31E rfl (by decide) h16 ?_ | refine q_31 rfl (by decide) ?_
        refine q_0 ?_
        refine q_eqN (by omega) (by omega) (fun hh => ?_) (fun hh => absurd hh (by omega))
        refine q_5 rfl ?_
        first | refine q_31E rfl (by decide) h18 ?_ | refine q_31 rfl (by decide) ?_
        refine q_0 ?_
        refine q_leN (by omega) (by omega) (fun hh => absurd hh (by omega)) (fun hh => ?_)
        refine q_5 rfl ?_
        refine q_0 ?_
        refine q_47 (mj_ev_mono _) [_] rfl rfl rfl (by decide) rfl rfl rfl ?_
        refine s_176G g1.1 h17 ?_
        refine q_23 ?_
        exact bad 2 (by omega) (by omega) e
      · by_cases c2 : W.n ≤ tV b n j
        · have e : ubS b n W.n W.m a (.inr j) = .inl (3, j) := (if_neg (by omega)).trans ((if_neg c1).trans (if_pos c2))
          refine q_5 rfl ?_
          refine q_47 (mj_ev_mono _) [] rfl rfl rfl (by decide) rfl rfl rfl ?_
          refine s_177G g1.1 ?_
          first | refine q_neN0 (by omega) (fun hh => ?_) (fun hh => absurd hh (by omega)) | refine q_neI0 (fun hh => ?_) (fun hh => absurd (by omega) hh)
          refine q_5 rfl ?_
          first | refine q_31E rfl (by decide) h16 ?_ | refine q_31 rfl (by decide) ?_
          refine q_0 ?_
          refine q_eqN (by omega) (by omega) (fun hh => ?_) (fun hh => absurd hh (by omega))
          refine q_5 rfl ?_
          first | refine q_31E rfl (by decide) h18 ?_ | refine q_31 rfl (by decide) ?_
          refine q_0 ?_
          refine q_leN (by omega) (by omega) (fun hh => ?_) (fun hh => absurd hh (by omega))
          refine q_5 rfl ?_
          first | refine q_31E rfl (by decide) g19 ?_ | refine q_31 rfl (by decide) ?_
          refine q_5 rfl ?_
          first | refine q_31E rfl (by decide) h22 ?_ | refine q_31 rfl (by decide) ?_
          refine q_ltN (by omega) (by omega) (fun hh => absurd hh (by omega)) (fun hh => ?_)
          refine q_5 rfl ?_
          refine q_0 ?_
          refine q_47 (mj_ev_mono _) [_] rfl rfl rfl (by decide) rfl rfl rfl ?_
          refine s_176G g1.1 h17 ?_
          refine q_23 ?_
          exact bad 3 (by omega) (by omega) e
        · have g85 : I 85 (23 + tV b n j) = mI (W.m (tV b n j)) := (hM.2.1 _ (by omega)).2.2.2.2.2.2
          have m31 : ∀ q, W.m (tV b n j) = some q → q < 2 ^ 31 := fun q hq => by
            have := hW.2.2 _ (show tV b n j < W.n by omega) q hq
            omega
          by_cases c3 : a = some (tV b n j)
          · have e : ubS b n W.n W.m a (.inr j) = .inl (4, j) := (if_neg (by omega)).trans ((if_neg c1).trans ((if_neg c2).trans (if_pos (Or.inl c3))))
            have z : nI (tV b n j) = mI a := by rw [c3]; rfl
            refine q_5 rfl ?_
            refine q_47 (mj_ev_mono _) [] rfl rfl rfl (by decide) rfl rfl rfl ?_
            refine s_177G g1.1 ?_
            first | refine q_neN0 (by omega) (fun hh => ?_) (fun hh => absurd hh (by omega)) | refine q_neI0 (fun hh => ?_) (fun hh => absurd (by omega) hh)
            refine q_5 rfl ?_
            first | refine q_31E rfl (by decide) h16 ?_ | refine q_31 rfl (by decide) ?_
            refine q_0 ?_
            refine q_eqN (by omega) (by omega) (fun hh => ?_) (fun hh => absurd hh (by omega))
            refine q_5 rfl ?_
            first | refine q_31E rfl (by decide) h18 ?_ | refine q_31 rfl (by decide) ?_
            refine q_0 ?_
            refine q_leN (by omega) (by omega) (fun hh => ?_) (fun hh => absurd hh (by omega))
            refine q_5 rfl ?_
            first | refine q_31E rfl (by decide) g19 ?_ | refine q_31 rfl (by decide) ?_
            refine q_5 rfl ?_
            first | refine q_31E rfl (by decide) h22 ?_ | refine q_31 rfl (by decide) ?_
            refine q_ltN (by omega) (by omega) (fun hh => ?_) (fun hh => absurd hh (by omega))
            refine q_5 rfl ?_
            first | refine q_31E rfl (by decide) g19 ?_ | refine q_31 rfl (by decide) ?_
            refine q_3 rfl ?_
            refine q_eqI (fun _ => ?_) (fun w => absurd z w)
            refine q_5 rfl ?_
            refine q_0 ?_
            refine q_47 (mj_ev_mono _) [_] rfl rfl rfl (by decide) rfl rfl rfl ?_
            refine s_176G g1.1 h17 ?_
            exact bad 4 (by omega) (by omega) e
          · have z : ¬ nI (tV b n j) = mI a := fun w => c3 ((mI_inj (m := some (tV b n j)) (m' := a) (fun q e => by cases e; omega) (fun q e => by have := ha q e; omega)).mp w).symm
            by_cases c4 : W.m (tV b n j) = none
            · have e : ubS b n W.n W.m a (.inr j) = .inr (j + 1) := (if_neg (by omega)).trans ((if_neg c1).trans ((if_neg c2).trans (if_neg (fun q => q.elim c3 (fun w => w c4)))))
              have z4 : mI (W.m (tV b n j)) = -(nI 1) := by rw [c4]; rfl
              refine q_5 rfl ?_
              refine q_47 (mj_ev_mono _) [] rfl rfl rfl (by decide) rfl rfl rfl ?_
              refine s_177G g1.1 ?_
              first | refine q_neN0 (by omega) (fun hh => ?_) (fun hh => absurd hh (by omega)) | refine q_neI0 (fun hh => ?_) (fun hh => absurd (by omega) hh)
              refine q_5 rfl ?_
              first | refine q_31E rfl (by decide) h16 ?_ | refine q_31 rfl (by decide) ?_
              refine q_0 ?_
              refine q_eqN (by omega) (by omega) (fun hh => ?_) (fun hh => absurd hh (by omega))
              refine q_5 rfl ?_
              first | refine q_31E rfl (by decide) h18 ?_ | refine q_31 rfl (by decide) ?_
              refine q_0 ?_
              refine q_leN (by omega) (by omega) (fun hh => ?_) (fun hh => absurd hh (by omega))
              refine q_5 rfl ?_
              first | refine q_31E rfl (by decide) g19 ?_ | refine q_31 rfl (by decide) ?_
              refine q_5 rfl ?_
              first | refine q_31E rfl (by decide) h22 ?_ | refine q_31 rfl (by decide) ?_
              refine q_ltN (by omega) (by omega) (fun hh => ?_) (fun hh => absurd hh (by omega))
              refine q_5 rfl ?_
              first | refine q_31E rfl (by decide) g19 ?_ | refine q_31 rfl (by decide) ?_
              refine q_3 rfl ?_
              refine q_eqI (fun w => absurd w z) (fun _ => ?_)
              refine q_5 rfl ?_
              refine q_33 rfl (by decide) (hP _ _ _ rfl) ?_
              refine q_0 ?_
              refine q_5 rfl ?_
              first | refine q_31E rfl (by decide) g19 ?_ | refine q_31 rfl (by decide) ?_
              first | refine q_add ?_ | refine q_11 rfl ?_
              first | refine q_38E _ rfl (by decide) rfl (by show _ < 33; omega) (by decide) (g85) ?_ | refine q_38 _ rfl (by decide) rfl (by show _ < 33; omega) (by decide) ?_
              refine q_1 ?_
              refine q_eqI (fun _ => ?_) (fun w => absurd z4 w)
              refine q_5 rfl ?_
              first | refine q_31E rfl (by decide) g19 ?_ | refine q_31 rfl (by decide) ?_
              refine q_6 rfl rfl rfl ?_
              refine q_5 rfl ?_
              refine q_47 (mj_ev_mono _) [] rfl rfl rfl (by decide) rfl rfl rfl ?_
              refine s_177G g1.1 ?_
              first | refine q_eqN0 (by omega) (fun hh => absurd hh (by omega)) (fun hh => ?_) | refine q_eqI0 (fun hh => absurd hh (by omega)) (fun hh => ?_)
              refine q_5 rfl ?_
              refine q_47 (mj_ev_mono _) [] rfl rfl rfl (by decide) rfl rfl rfl ?_
              refine s_172 (j := j + 1) hP hB g2'.1 (fun I2 L2 e2 eL hT => ?_)
              refine q_3 rfl ?_
              refine q_26 ?_
              rw [e] at k
              exact k _ I2 L2 (e2.to rfl rfl) eL ⟨g1.tk e2, hT⟩ (fun j2 j' e1 _ => by cases e1; rfl)
            · have e : ubS b n W.n W.m a (.inr j) = .inl (4, j) := (if_neg (by omega)).trans ((if_neg c1).trans ((if_neg c2).trans (if_pos (Or.inr c4))))
              have z4 : ¬ mI (W.m (tV b n j)) = -(nI 1) := fun w => c4 ((mI_eq m31).mp w)
              refine q_5 rfl ?_
              refine q_47 (mj_ev_mono _) [] rfl rfl rfl (by decide) rfl rfl rfl ?_
              refine s_177G g1.1 ?_
              first | refine q_neN0 (by omega) (fun hh => ?_) (fun hh => absurd hh (by omega)) | refine q_neI0 (fun hh => ?_) (fun hh => absurd (by omega) hh)
              refine q_5 rfl ?_
              first | refine q_31E rfl (by decide) h16 ?_ | refine q_31 rfl (by decide) ?_
              refine q_0 ?_
              refine q_eqN (by omega) (by omega) (fun hh => ?_) (fun hh => absurd hh (by omega))
              refine q_5 rfl ?_
              first | refine q_31E rfl (by decide) h18 ?_ | refine q_31 rfl (by decide) ?_
              refine q_0 ?_
              refine q_leN (by omega) (by omega) (fun hh => ?_) (fun hh => absurd hh (by omega))
              refine q_5 rfl ?_
              first | refine q_31E rfl (by decide) g19 ?_ | refine q_31 rfl (by decide) ?_
              refine q_5 rfl ?_
              first | refine q_31E rfl (by decide) h22 ?_ | refine q_31 rfl (by decide) ?_
              refine q_ltN (by omega) (by omega) (fun hh => ?_) (fun hh => absurd hh (by omega))
              refine q_5 rfl ?_
              first | refine q_31E rfl (by decide) g19 ?_ | refine q_31 rfl (by decide) ?_
              refine q_3 rfl ?_
              refine q_eqI (fun w => absurd w z) (fun _ => ?_)
              refine q_5 rfl ?_
              refine q_33 rfl (by decide) (hP _ _ _ rfl) ?_
              refine q_0 ?_
              refine q_5 rfl ?_
              first | refine q_31E rfl (by decide) g19 ?_ | refine q_31 rfl (by decide) ?_
              first | refine q_add ?_ | refine q_11 rfl ?_
              first | refine q_38E _ rfl (by decide) rfl (by show _ < 33; omega) (by decide) (g85) ?_ | refine q_38 _ rfl (by decide) rfl (by show _ < 33; omega) (by decide) ?_
              refine q_1 ?_
              refine q_eqI (fun w => absurd w z4) (fun _ => ?_)
              refine q_5 rfl ?_
              refine q_0 ?_
              refine q_47 (mj_ev_mono _) [_] rfl rfl rfl (by decide) rfl rfl rfl ?_
              refine s_176G g1.1 h17 ?_
              exact bad 4 (by omega) (by omega) e
    · have e : ubS b n W.n W.m a (.inr j) = .inl (1, j) := if_pos k20
      have s2 : srt (tK b n j) ≠ 2 := fun z => k20 (srt_2.mp z)
      have s4 := srt_le (tK b n j)
      refine q_5 rfl ?_
      refine q_47 (mj_ev_mono _) [] rfl rfl rfl (by decide) rfl rfl rfl ?_
      refine s_177G g1.1 ?_
      first | refine q_neN0 (by omega) (fun hh => ?_) (fun hh => absurd hh (by omega)) | refine q_neI0 (fun hh => ?_) (fun hh => absurd (by omega) hh)
      refine q_5 rfl ?_
      first | refine q_31E rfl (by decide) h16 ?_ | refine q_31 rfl (by decide) ?_
      refine q_0 ?_
      refine q_eqN (by omega) (by omega) (fun hh => absurd hh (by omega)) (fun hh => ?_)
      refine q_5 rfl ?_
      refine q_0 ?_
      refine q_47 (mj_ev_mono _) [_] rfl rfl rfl (by decide) rfl rfl rfl ?_
      refine s_176G g1.1 h17 ?_
      refine q_23 ?_
      exact bad 1 (by omega) (by omega) e
end M
